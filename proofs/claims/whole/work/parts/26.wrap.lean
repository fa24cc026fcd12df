def rL_demand : Room := { frames := 2, cells := 0, slots := 0, locals := 44 }
def rx_L_demand : Room := { frames := 8, cells := 1, slots := 6, locals := 132 }
set_option maxHeartbeats 4000000 in
set_option maxRecDepth 100000 in
theorem k_L_demand (l : Launch) (D : va_G) (cI cZ cJ : ClassId) (ad : Nat → Nat) (o : Nat) (f : Nat → Int64) (u : GS) (p0 : Int32) {r : Int32} {w' : GS} (h : g_X9_demand u p0 = some (.inl r, w')) : MJ l yL_demand (wmH yL_demand cL_demand 4 (some .int) [(0, 9, 12, 13)]) rL_demand D [(cI, .int), (cZ, .boolean), (cJ, .long)] (wL cI cZ cJ ad o f u) (wL cI cZ cJ ad o (vp_updL f (0 : Int32).toNatClampNeg r.toInt64) w') [.ref (ad 0), .int p0, .ref o] 0 0 0 := by
  intro sz
  refine va_MetW (cc := cL_demand) (maxL := 4) (ret := some .int) (hh := [(0, 9, 12, 13)]) (by decide) rfl ?_
  intro p e s m args below meth c s₁ B hml hv
  obtain ⟨rfl, hsz, hP, hK, hD0, hZ⟩ := hv
  have hx := B.exec
  have hb := B.bytes
  have hr := B.returns
  have hts0 := atoms_spec (ws := wmH yL_demand cL_demand 4 (some .int) [(0, 9, 12, 13)]) B.pre
  have hts : ∀ w ∈ Wall, w.before _ s = true := fun w hw => hts0 w (List.mem_cons_of_mem _ hw)
  have hown : s.vm.findClass RL = some m.cls := findClass_of_methodNamed B.named
  have hlocks := B.notSynchronized
  subst hsz
  have hD := hD0.self (sz := s.heap.size)
  generalize hAe : va_A (wL cI cZ cJ ad o f u) s.heap.size = A at hD hZ ⊢
  have hA : ∀ q : Nat, s.heap.size ≤ q → A q := fun q h => by rw [← hAe]; exact Or.inr h
  have hS : va_S A s.heap s.heap [] := va_S.rf
  have hl := lv_entry ([.ref (ad 0), .int p0, .ref o]) (n := 4) (Nat.le_of_ble_eq_true rfl)
  rw [lg_entry_eq]
  generalize (lg_sl ([.ref (ad 0), .int p0, .ref o]) ++ List.replicate (4 - (lg_sl ([.ref (ad 0), .int p0, .ref o])).length) Slot.unset).toArray = ls at hl ⊢
  replace hl : lv_has ls 4 [(0, .ref (ad 0)), (1, .int p0), (2, .ref o)] := hl
  refine w_gen (fun Q hQ => ?_)
  refine lv_aload_n hx hb dL_demand_0 rfl (lv_at hl 2 rfl) ?_
  refine lv_iconst (v := 0) hx hb dL_demand_1 (by decide) ?_
  refine lv_aload_n hx hb dL_demand_2 rfl (lv_at hl 0 rfl) ?_
  refine lv_iload_n hx hb dL_demand_3 rfl (lv_at hl 1 rfl) ?_
  refine cc_iVF (As := [.int p0]) (rest := [.int 0, .ref o]) (wr := [(o, .inl (cJ, 1, .inr (.inl f)))]) ⟨hx, hb, hml, hown, hts⟩ (k_X9_demand l D cI cZ ad u p0 h) (cwV 1 hts (gwV mw_387 mw_388 mw_389 mw_48 mw_390) rfl rfl rfl (by decide +kernel) ⟨Nat.le_of_ble_eq_true rfl, Nat.le_of_ble_eq_true rfl⟩) (hK.sub [0, 1] rfl) hP hD hS hA hZ [1, 2, 3, 4, 5, 6, 7, 8, 9, 10, 11, 12, 13, 14, 15, 16, 17, 18, 19, 20, 21, 22, 23, 24, 25, 26, 27, 28, 29, 30, 31, 32, 33, 34, 35] [0] rfl rfl (by decide) rfl (by decide) (by decide) (ci := 9) (q0 := 0) rfl rfl rfl hl.1 rfl (Nat.le_of_ble_eq_true rfl) dL_demand_4 ⟨Nat.zero_le _, Nat.zero_le _⟩ (fun H locs hP hD hS => ?_)
  replace hP : va_P D vwCl (wL cI cZ cJ ad o f w') H := hP
  replace hD : va_D A (wL cI cZ cJ ad o f w') := hD
  refine lv_i2l (v := r.toInt64) hx hb dL_demand_7 rfl ?_
  refine va_last (D := D) hx hb hK hP hD hS 0 2 rfl rfl (by unfold vp_in; decide) dL_demand_8 (fun H locs hP hD hS => ?_)
  replace hP : va_P D vwCl (wL cI cZ cJ ad o (vp_updL f (0 : Int32).toNatClampNeg r.toInt64) w') H := hP
  replace hD : va_D A (wL cI cZ cJ ad o (vp_updL f (0 : Int32).toNatClampNeg r.toInt64) w') := hD
  refine lv_goto (tgt := 15) hx hb dL_demand_9 (by decide) ?_
  refine lv_iconst (v := 0) hx hb dL_demand_15 (by decide) ?_
  exact cc_retC hx hb hr rfl hQ hK hP hD hS rfl dL_demand_16 hlocks
set_option maxHeartbeats 4000000 in
set_option maxRecDepth 100000 in
theorem kx1_L_demand (l : Launch) (hl0 : l.stackTraces = false) (D : va_G) (cI cZ cJ : ClassId) (ad : Nat → Nat) (o : Nat) (f : Nat → Int64) (u : GS) (p0 : Int32) {w' : GS} (h : g_X9_demand u p0 = some (.inr "java/lang/IllegalArgumentException", w')) : MJ l yL_demand (wmH yL_demand cL_demand 4 (some .int) [(0, 9, 12, 13)]) rx_L_demand D [(cI, .int), (cZ, .boolean), (cJ, .long)] (wL cI cZ cJ ad o f u) (wL cI cZ cJ ad o f w') [.ref (ad 0), .int p0, .ref o] 1 1 6 := by
  intro sz
  refine va_MetW (cc := cL_demand) (maxL := 4) (ret := some .int) (hh := [(0, 9, 12, 13)]) (by decide) rfl ?_
  intro p e s m args below meth c s₁ B hml hv
  obtain ⟨rfl, hsz, hP, hK, hD0, hZ⟩ := hv
  have hx := B.exec
  have hb := B.bytes
  have hr := B.returns
  have hts0 := atoms_spec (ws := wmH yL_demand cL_demand 4 (some .int) [(0, 9, 12, 13)]) B.pre
  have hts : ∀ w ∈ Wall, w.before _ s = true := fun w hw => hts0 w (List.mem_cons_of_mem _ hw)
  have hown : s.vm.findClass RL = some m.cls := findClass_of_methodNamed B.named
  have hlocks := B.notSynchronized
  subst hsz
  have hD := hD0.self (sz := s.heap.size)
  generalize hAe : va_A (wL cI cZ cJ ad o f u) s.heap.size = A at hD hZ ⊢
  have hA : ∀ q : Nat, s.heap.size ≤ q → A q := fun q h => by rw [← hAe]; exact Or.inr h
  have hS : va_S A s.heap s.heap [] := va_S.rf
  have hT := vx_table (x := yL_demand) B (hts0 _ List.mem_cons_self)
  have hl := lv_entry ([.ref (ad 0), .int p0, .ref o]) (n := 4) (Nat.le_of_ble_eq_true rfl)
  rw [lg_entry_eq]
  generalize (lg_sl ([.ref (ad 0), .int p0, .ref o]) ++ List.replicate (4 - (lg_sl ([.ref (ad 0), .int p0, .ref o])).length) Slot.unset).toArray = ls at hl ⊢
  replace hl : lv_has ls 4 [(0, .ref (ad 0)), (1, .int p0), (2, .ref o)] := hl
  refine w_gen (fun Q hQ => ?_)
  refine lv_aload_n hx hb dL_demand_0 rfl (lv_at hl 2 rfl) ?_
  refine lv_iconst (v := 0) hx hb dL_demand_1 (by decide) ?_
  refine lv_aload_n hx hb dL_demand_2 rfl (lv_at hl 0 rfl) ?_
  refine lv_iload_n hx hb dL_demand_3 rfl (lv_at hl 1 rfl) ?_
  refine cX_iVF (As := [.int p0]) (rest := [.int 0, .ref o]) (wr := [(o, .inl (cJ, 1, .inr (.inl f)))]) ⟨hx, hb, hml, hown, hts⟩ (kx_X9_demand l hl0 D cI cZ ad u p0 h) (cwV 1 hts (gwV mw_387 mw_388 mw_389 mw_48 mw_390) rfl rfl rfl (by decide +kernel) ⟨Nat.le_of_ble_eq_true rfl, Nat.le_of_ble_eq_true rfl⟩) (hK.sub [0, 1] rfl) hP hD hS hA hZ [1, 2, 3, 4, 5, 6, 7, 8, 9, 10, 11, 12, 13, 14, 15, 16, 17, 18, 19, 20, 21, 22, 23, 24, 25, 26, 27, 28, 29, 30, 31, 32, 33, 34, 35] [0] rfl rfl (by decide) rfl (by decide) (by decide) (ci := 9) (q0 := 0) rfl rfl rfl hl.1 rfl (Nat.le_of_ble_eq_true rfl) dL_demand_4 ⟨Nat.le_of_ble_eq_true rfl, Nat.le_of_ble_eq_true rfl⟩ (fun ce q9 H locs hP hD hS h1 h2 h3 => ?_)
  replace hP : va_P D vwCl (wL cI cZ cJ ad o f w') H := hP
  replace hD : va_D A (wL cI cZ cJ ad o f w') := hD
  refine vx_catch (name := "java/lang/IllegalArgumentException") hown [] ⟨0, 9, 12, 13⟩ [] hT (fun _ h => absurd h List.not_mem_nil) (by decide) (by decide) (hts _ mw_386) (va_Nw.use rfl (hZ.2.2.2.2.2.2.2.2.2.1 "java/lang/IllegalArgumentException" (by decide +kernel))) h1 h2 h3 ?_
  refine lv_astore_n (lv' := [(3, .ref q9), (0, .ref (ad 0)), (1, .int p0), (2, .ref o)]) hx hb dL_demand_12 rfl hl (by decide) rfl (fun ls hl => ?_)
  refine lv_iconst (v := 1) hx hb dL_demand_13 (by decide) ?_
  exact cc_retC hx hb hr rfl hQ hK hP hD hS rfl dL_demand_14 hlocks

def rL_pass : Room := { frames := 7, cells := 0, slots := 0, locals := 162 }
def rx_L_pass : Room := { frames := 8, cells := 1, slots := 6, locals := 162 }
set_option maxHeartbeats 4000000 in
set_option maxRecDepth 100000 in
theorem k_L_pass (l : Launch) (D : va_G) (cI cZ cJ : ClassId) (ad : Nat → Nat) (o : Nat) (f : Nat → Int64) (u : GS) (p0 : Int32) {r : Int32} {w' : GS} (h : g_X9_pass u p0 = some (.inl r, w')) : MJ l yL_pass (wmH yL_pass cL_pass 4 (some .int) [(0, 9, 12, 13), (0, 9, 15, 18)]) rL_pass D [(cI, .int), (cZ, .boolean), (cJ, .long)] (wL cI cZ cJ ad o f u) (wL cI cZ cJ ad o (vp_updL f (0 : Int32).toNatClampNeg r.toInt64) w') [.ref (ad 0), .int p0, .ref o] 0 0 0 := by
  intro sz
  refine va_MetW (cc := cL_pass) (maxL := 4) (ret := some .int) (hh := [(0, 9, 12, 13), (0, 9, 15, 18)]) (by decide) rfl ?_
  intro p e s m args below meth c s₁ B hml hv
  obtain ⟨rfl, hsz, hP, hK, hD0, hZ⟩ := hv
  have hx := B.exec
  have hb := B.bytes
  have hr := B.returns
  have hts0 := atoms_spec (ws := wmH yL_pass cL_pass 4 (some .int) [(0, 9, 12, 13), (0, 9, 15, 18)]) B.pre
  have hts : ∀ w ∈ Wall, w.before _ s = true := fun w hw => hts0 w (List.mem_cons_of_mem _ hw)
  have hown : s.vm.findClass RL = some m.cls := findClass_of_methodNamed B.named
  have hlocks := B.notSynchronized
  subst hsz
  have hD := hD0.self (sz := s.heap.size)
  generalize hAe : va_A (wL cI cZ cJ ad o f u) s.heap.size = A at hD hZ ⊢
  have hA : ∀ q : Nat, s.heap.size ≤ q → A q := fun q h => by rw [← hAe]; exact Or.inr h
  have hS : va_S A s.heap s.heap [] := va_S.rf
  have hl := lv_entry ([.ref (ad 0), .int p0, .ref o]) (n := 4) (Nat.le_of_ble_eq_true rfl)
  rw [lg_entry_eq]
  generalize (lg_sl ([.ref (ad 0), .int p0, .ref o]) ++ List.replicate (4 - (lg_sl ([.ref (ad 0), .int p0, .ref o])).length) Slot.unset).toArray = ls at hl ⊢
  replace hl : lv_has ls 4 [(0, .ref (ad 0)), (1, .int p0), (2, .ref o)] := hl
  refine w_gen (fun Q hQ => ?_)
  refine lv_aload_n hx hb dL_pass_0 rfl (lv_at hl 2 rfl) ?_
  refine lv_iconst (v := 0) hx hb dL_pass_1 (by decide) ?_
  refine lv_aload_n hx hb dL_pass_2 rfl (lv_at hl 0 rfl) ?_
  refine lv_iload_n hx hb dL_pass_3 rfl (lv_at hl 1 rfl) ?_
  refine cc_iVF (As := [.int p0]) (rest := [.int 0, .ref o]) (wr := [(o, .inl (cJ, 1, .inr (.inl f)))]) ⟨hx, hb, hml, hown, hts⟩ (k_X9_pass l D cI cZ ad u p0 h) (cwV 1 hts (gwV mw_467 mw_468 mw_469 mw_48 mw_470) rfl rfl rfl (by decide +kernel) ⟨Nat.le_of_ble_eq_true rfl, Nat.le_of_ble_eq_true rfl⟩) (hK.sub [0, 1] rfl) hP hD hS hA hZ [1, 2, 3, 4, 5, 6, 7, 8, 9, 10, 11, 12, 13, 14, 15, 16, 17, 18, 19, 20, 21, 22, 23, 24, 25, 26, 27, 28, 29, 30, 31, 32, 33, 34, 35] [0] rfl rfl (by decide) rfl (by decide) (by decide) (ci := 9) (q0 := 0) rfl rfl rfl hl.1 rfl (Nat.le_of_ble_eq_true rfl) dL_pass_4 ⟨Nat.zero_le _, Nat.zero_le _⟩ (fun H locs hP hD hS => ?_)
  replace hP : va_P D vwCl (wL cI cZ cJ ad o f w') H := hP
  replace hD : va_D A (wL cI cZ cJ ad o f w') := hD
  refine lv_i2l (v := r.toInt64) hx hb dL_pass_7 rfl ?_
  refine va_last (D := D) hx hb hK hP hD hS 0 2 rfl rfl (by unfold vp_in; decide) dL_pass_8 (fun H locs hP hD hS => ?_)
  replace hP : va_P D vwCl (wL cI cZ cJ ad o (vp_updL f (0 : Int32).toNatClampNeg r.toInt64) w') H := hP
  replace hD : va_D A (wL cI cZ cJ ad o (vp_updL f (0 : Int32).toNatClampNeg r.toInt64) w') := hD
  refine lv_goto (tgt := 18) hx hb dL_pass_9 (by decide) ?_
  refine lv_iconst (v := 0) hx hb dL_pass_18 (by decide) ?_
  exact cc_retC hx hb hr rfl hQ hK hP hD hS rfl dL_pass_19 hlocks
set_option maxHeartbeats 4000000 in
set_option maxRecDepth 100000 in
theorem kx1_L_pass (l : Launch) (hl0 : l.stackTraces = false) (D : va_G) (cI cZ cJ : ClassId) (ad : Nat → Nat) (o : Nat) (f : Nat → Int64) (u : GS) (p0 : Int32) {w' : GS} (h : g_X9_pass u p0 = some (.inr "java/lang/IllegalArgumentException", w')) : MJ l yL_pass (wmH yL_pass cL_pass 4 (some .int) [(0, 9, 12, 13), (0, 9, 15, 18)]) rx_L_pass D [(cI, .int), (cZ, .boolean), (cJ, .long)] (wL cI cZ cJ ad o f u) (wL cI cZ cJ ad o f w') [.ref (ad 0), .int p0, .ref o] 1 1 6 := by
  intro sz
  refine va_MetW (cc := cL_pass) (maxL := 4) (ret := some .int) (hh := [(0, 9, 12, 13), (0, 9, 15, 18)]) (by decide) rfl ?_
  intro p e s m args below meth c s₁ B hml hv
  obtain ⟨rfl, hsz, hP, hK, hD0, hZ⟩ := hv
  have hx := B.exec
  have hb := B.bytes
  have hr := B.returns
  have hts0 := atoms_spec (ws := wmH yL_pass cL_pass 4 (some .int) [(0, 9, 12, 13), (0, 9, 15, 18)]) B.pre
  have hts : ∀ w ∈ Wall, w.before _ s = true := fun w hw => hts0 w (List.mem_cons_of_mem _ hw)
  have hown : s.vm.findClass RL = some m.cls := findClass_of_methodNamed B.named
  have hlocks := B.notSynchronized
  subst hsz
  have hD := hD0.self (sz := s.heap.size)
  generalize hAe : va_A (wL cI cZ cJ ad o f u) s.heap.size = A at hD hZ ⊢
  have hA : ∀ q : Nat, s.heap.size ≤ q → A q := fun q h => by rw [← hAe]; exact Or.inr h
  have hS : va_S A s.heap s.heap [] := va_S.rf
  have hT := vx_table (x := yL_pass) B (hts0 _ List.mem_cons_self)
  have hl := lv_entry ([.ref (ad 0), .int p0, .ref o]) (n := 4) (Nat.le_of_ble_eq_true rfl)
  rw [lg_entry_eq]
  generalize (lg_sl ([.ref (ad 0), .int p0, .ref o]) ++ List.replicate (4 - (lg_sl ([.ref (ad 0), .int p0, .ref o])).length) Slot.unset).toArray = ls at hl ⊢
  replace hl : lv_has ls 4 [(0, .ref (ad 0)), (1, .int p0), (2, .ref o)] := hl
  refine w_gen (fun Q hQ => ?_)
  refine lv_aload_n hx hb dL_pass_0 rfl (lv_at hl 2 rfl) ?_
  refine lv_iconst (v := 0) hx hb dL_pass_1 (by decide) ?_
  refine lv_aload_n hx hb dL_pass_2 rfl (lv_at hl 0 rfl) ?_
  refine lv_iload_n hx hb dL_pass_3 rfl (lv_at hl 1 rfl) ?_
  refine cX_iVF (As := [.int p0]) (rest := [.int 0, .ref o]) (wr := [(o, .inl (cJ, 1, .inr (.inl f)))]) ⟨hx, hb, hml, hown, hts⟩ (kx_X9_pass l hl0 D cI cZ ad u p0 h) (cwV 1 hts (gwV mw_467 mw_468 mw_469 mw_48 mw_470) rfl rfl rfl (by decide +kernel) ⟨Nat.le_of_ble_eq_true rfl, Nat.le_of_ble_eq_true rfl⟩) (hK.sub [0, 1] rfl) hP hD hS hA hZ [1, 2, 3, 4, 5, 6, 7, 8, 9, 10, 11, 12, 13, 14, 15, 16, 17, 18, 19, 20, 21, 22, 23, 24, 25, 26, 27, 28, 29, 30, 31, 32, 33, 34, 35] [0] rfl rfl (by decide) rfl (by decide) (by decide) (ci := 9) (q0 := 0) rfl rfl rfl hl.1 rfl (Nat.le_of_ble_eq_true rfl) dL_pass_4 ⟨Nat.le_of_ble_eq_true rfl, Nat.le_of_ble_eq_true rfl⟩ (fun ce q9 H locs hP hD hS h1 h2 h3 => ?_)
  replace hP : va_P D vwCl (wL cI cZ cJ ad o f w') H := hP
  replace hD : va_D A (wL cI cZ cJ ad o f w') := hD
  refine vx_catch (name := "java/lang/IllegalArgumentException") hown [] ⟨0, 9, 12, 13⟩ [⟨0, 9, 15, 18⟩] hT (fun _ h => absurd h List.not_mem_nil) (by decide) (by decide) (hts _ mw_386) (va_Nw.use rfl (hZ.2.2.2.2.2.2.2.2.2.1 "java/lang/IllegalArgumentException" (by decide +kernel))) h1 h2 h3 ?_
  refine lv_astore_n (lv' := [(3, .ref q9), (0, .ref (ad 0)), (1, .int p0), (2, .ref o)]) hx hb dL_pass_12 rfl hl (by decide) rfl (fun ls hl => ?_)
  refine lv_iconst (v := 1) hx hb dL_pass_13 (by decide) ?_
  exact cc_retC hx hb hr rfl hQ hK hP hD hS rfl dL_pass_14 hlocks
set_option maxHeartbeats 4000000 in
set_option maxRecDepth 100000 in
theorem kx2_L_pass (l : Launch) (hl0 : l.stackTraces = false) (D : va_G) (cI cZ cJ : ClassId) (ad : Nat → Nat) (o : Nat) (f : Nat → Int64) (u : GS) (p0 : Int32) {w' : GS} (h : g_X9_pass u p0 = some (.inr "java/lang/IllegalStateException", w')) : MJ l yL_pass (wmH yL_pass cL_pass 4 (some .int) [(0, 9, 12, 13), (0, 9, 15, 18)]) rx_L_pass D [(cI, .int), (cZ, .boolean), (cJ, .long)] (wL cI cZ cJ ad o f u) (wL cI cZ cJ ad o f w') [.ref (ad 0), .int p0, .ref o] 2 1 6 := by
  intro sz
  refine va_MetW (cc := cL_pass) (maxL := 4) (ret := some .int) (hh := [(0, 9, 12, 13), (0, 9, 15, 18)]) (by decide) rfl ?_
  intro p e s m args below meth c s₁ B hml hv
  obtain ⟨rfl, hsz, hP, hK, hD0, hZ⟩ := hv
  have hx := B.exec
  have hb := B.bytes
  have hr := B.returns
  have hts0 := atoms_spec (ws := wmH yL_pass cL_pass 4 (some .int) [(0, 9, 12, 13), (0, 9, 15, 18)]) B.pre
  have hts : ∀ w ∈ Wall, w.before _ s = true := fun w hw => hts0 w (List.mem_cons_of_mem _ hw)
  have hown : s.vm.findClass RL = some m.cls := findClass_of_methodNamed B.named
  have hlocks := B.notSynchronized
  subst hsz
  have hD := hD0.self (sz := s.heap.size)
  generalize hAe : va_A (wL cI cZ cJ ad o f u) s.heap.size = A at hD hZ ⊢
  have hA : ∀ q : Nat, s.heap.size ≤ q → A q := fun q h => by rw [← hAe]; exact Or.inr h
  have hS : va_S A s.heap s.heap [] := va_S.rf
  have hT := vx_table (x := yL_pass) B (hts0 _ List.mem_cons_self)
  have hl := lv_entry ([.ref (ad 0), .int p0, .ref o]) (n := 4) (Nat.le_of_ble_eq_true rfl)
  rw [lg_entry_eq]
  generalize (lg_sl ([.ref (ad 0), .int p0, .ref o]) ++ List.replicate (4 - (lg_sl ([.ref (ad 0), .int p0, .ref o])).length) Slot.unset).toArray = ls at hl ⊢
  replace hl : lv_has ls 4 [(0, .ref (ad 0)), (1, .int p0), (2, .ref o)] := hl
  refine w_gen (fun Q hQ => ?_)
  refine lv_aload_n hx hb dL_pass_0 rfl (lv_at hl 2 rfl) ?_
  refine lv_iconst (v := 0) hx hb dL_pass_1 (by decide) ?_
  refine lv_aload_n hx hb dL_pass_2 rfl (lv_at hl 0 rfl) ?_
  refine lv_iload_n hx hb dL_pass_3 rfl (lv_at hl 1 rfl) ?_
  refine cX_iVF (As := [.int p0]) (rest := [.int 0, .ref o]) (wr := [(o, .inl (cJ, 1, .inr (.inl f)))]) ⟨hx, hb, hml, hown, hts⟩ (kx_X9_pass l hl0 D cI cZ ad u p0 h) (cwV 1 hts (gwV mw_467 mw_468 mw_469 mw_48 mw_470) rfl rfl rfl (by decide +kernel) ⟨Nat.le_of_ble_eq_true rfl, Nat.le_of_ble_eq_true rfl⟩) (hK.sub [0, 1] rfl) hP hD hS hA hZ [1, 2, 3, 4, 5, 6, 7, 8, 9, 10, 11, 12, 13, 14, 15, 16, 17, 18, 19, 20, 21, 22, 23, 24, 25, 26, 27, 28, 29, 30, 31, 32, 33, 34, 35] [0] rfl rfl (by decide) rfl (by decide) (by decide) (ci := 9) (q0 := 0) rfl rfl rfl hl.1 rfl (Nat.le_of_ble_eq_true rfl) dL_pass_4 ⟨Nat.le_of_ble_eq_true rfl, Nat.le_of_ble_eq_true rfl⟩ (fun ce q9 H locs hP hD hS h1 h2 h3 => ?_)
  replace hP : va_P D vwCl (wL cI cZ cJ ad o f w') H := hP
  replace hD : va_D A (wL cI cZ cJ ad o f w') := hD
  refine vx_catch (name := "java/lang/IllegalStateException") hown [⟨0, 9, 12, 13⟩] ⟨0, 9, 15, 18⟩ [] hT (List.forall_mem_cons.mpr ⟨Or.inr ⟨by decide, "java/lang/IllegalArgumentException", hts _ mw_386, hZ.2.2.2.2.2.2.2.2.2.2 ("java/lang/IllegalStateException", "java/lang/IllegalArgumentException") (by decide +kernel)⟩, (fun _ h => absurd h List.not_mem_nil)⟩) (by decide) (by decide) (hts _ mw_466) (va_Nw.use rfl (hZ.2.2.2.2.2.2.2.2.2.1 "java/lang/IllegalStateException" (by decide +kernel))) h1 h2 h3 ?_
  refine lv_astore_n (lv' := [(3, .ref q9), (0, .ref (ad 0)), (1, .int p0), (2, .ref o)]) hx hb dL_pass_15 rfl hl (by decide) rfl (fun ls hl => ?_)
  refine lv_iconst (v := 2) hx hb dL_pass_16 (by decide) ?_
  exact cc_retC hx hb hr rfl hQ hK hP hD hS rfl dL_pass_17 hlocks

def rL_holds : Room := { frames := 4, cells := 0, slots := 0, locals := 85 }
def rx_L_holds : Room := { frames := 10, cells := 1, slots := 6, locals := 173 }
set_option maxHeartbeats 4000000 in
set_option maxRecDepth 100000 in
theorem k_L_holds (l : Launch) (D : va_G) (cI cZ cJ : ClassId) (ad : Nat → Nat) (o : Nat) (f : Nat → Int64) (u : GS) (p0 : Int32) (p1 : Int32) {r : Int32} {w' : GS} (h : g_X9_holds u p0 p1 = some (.inl r, w')) : MJ l yL_holds (wmH yL_holds cL_holds 5 (some .int) [(0, 10, 13, 24)]) rL_holds D [(cI, .int), (cZ, .boolean), (cJ, .long)] (wL cI cZ cJ ad o f u) (wL cI cZ cJ ad o (vp_updL f (0 : Int32).toNatClampNeg r.toInt64) w') [.ref (ad 0), .int p0, .int p1, .ref o] 0 0 0 := by
  intro sz
  refine va_MetW (cc := cL_holds) (maxL := 5) (ret := some .int) (hh := [(0, 10, 13, 24)]) (by decide) rfl ?_
  intro p e s m args below meth c s₁ B hml hv
  obtain ⟨rfl, hsz, hP, hK, hD0, hZ⟩ := hv
  have hx := B.exec
  have hb := B.bytes
  have hr := B.returns
  have hts0 := atoms_spec (ws := wmH yL_holds cL_holds 5 (some .int) [(0, 10, 13, 24)]) B.pre
  have hts : ∀ w ∈ Wall, w.before _ s = true := fun w hw => hts0 w (List.mem_cons_of_mem _ hw)
  have hown : s.vm.findClass RL = some m.cls := findClass_of_methodNamed B.named
  have hlocks := B.notSynchronized
  subst hsz
  have hD := hD0.self (sz := s.heap.size)
  generalize hAe : va_A (wL cI cZ cJ ad o f u) s.heap.size = A at hD hZ ⊢
  have hA : ∀ q : Nat, s.heap.size ≤ q → A q := fun q h => by rw [← hAe]; exact Or.inr h
  have hS : va_S A s.heap s.heap [] := va_S.rf
  have hl := lv_entry ([.ref (ad 0), .int p0, .int p1, .ref o]) (n := 5) (Nat.le_of_ble_eq_true rfl)
  rw [lg_entry_eq]
  generalize (lg_sl ([.ref (ad 0), .int p0, .int p1, .ref o]) ++ List.replicate (5 - (lg_sl ([.ref (ad 0), .int p0, .int p1, .ref o])).length) Slot.unset).toArray = ls at hl ⊢
  replace hl : lv_has ls 5 [(0, .ref (ad 0)), (1, .int p0), (2, .int p1), (3, .ref o)] := hl
  refine w_gen (fun Q hQ => ?_)
  refine lv_aload_n hx hb dL_holds_0 rfl (lv_at hl 3 rfl) ?_
  refine lv_iconst (v := 0) hx hb dL_holds_1 (by decide) ?_
  refine lv_aload_n hx hb dL_holds_2 rfl (lv_at hl 0 rfl) ?_
  refine lv_iload_n hx hb dL_holds_3 rfl (lv_at hl 1 rfl) ?_
  refine lv_iload_n hx hb dL_holds_4 rfl (lv_at hl 2 rfl) ?_
  refine cc_iVF (As := [.int p0, .int p1]) (rest := [.int 0, .ref o]) (wr := [(o, .inl (cJ, 1, .inr (.inl f)))]) ⟨hx, hb, hml, hown, hts⟩ (k_X9_holds l D cI cZ ad u p0 p1 h) (cwV 2 hts (gwV mw_588 mw_589 mw_590 mw_48 mw_591) rfl rfl rfl (by decide +kernel) ⟨Nat.le_of_ble_eq_true rfl, Nat.le_of_ble_eq_true rfl⟩) (hK.sub [0, 1] rfl) hP hD hS hA hZ [1, 2, 3, 4, 5, 6, 7, 8, 9, 10, 11, 12, 13, 14, 15, 16, 17, 18, 19, 20, 21, 22, 23, 24, 25, 26, 27, 28, 29, 30, 31, 32, 33, 34, 35] [0] rfl rfl (by decide) rfl (by decide) (by decide) (ci := 9) (q0 := 0) rfl rfl rfl hl.1 rfl (Nat.le_of_ble_eq_true rfl) dL_holds_5 ⟨Nat.zero_le _, Nat.zero_le _⟩ (fun H locs hP hD hS => ?_)
  replace hP : va_P D vwCl (wL cI cZ cJ ad o f w') H := hP
  replace hD : va_D A (wL cI cZ cJ ad o f w') := hD
  refine lv_i2l (v := r.toInt64) hx hb dL_holds_8 rfl ?_
  refine va_last (D := D) hx hb hK hP hD hS 0 2 rfl rfl (by unfold vp_in; decide) dL_holds_9 (fun H locs hP hD hS => ?_)
  replace hP : va_P D vwCl (wL cI cZ cJ ad o (vp_updL f (0 : Int32).toNatClampNeg r.toInt64) w') H := hP
  replace hD : va_D A (wL cI cZ cJ ad o (vp_updL f (0 : Int32).toNatClampNeg r.toInt64) w') := hD
  refine lv_goto (tgt := 17) hx hb dL_holds_10 (by decide) ?_
  refine lv_iconst (v := 0) hx hb dL_holds_17 (by decide) ?_
  exact cc_retC hx hb hr rfl hQ hK hP hD hS rfl dL_holds_18 hlocks
set_option maxHeartbeats 4000000 in
set_option maxRecDepth 100000 in
theorem kx1_L_holds (l : Launch) (hl0 : l.stackTraces = false) (D : va_G) (cI cZ cJ : ClassId) (ad : Nat → Nat) (o : Nat) (f : Nat → Int64) (u : GS) (p0 : Int32) (p1 : Int32) {w' : GS} (h : g_X9_holds u p0 p1 = some (.inr "java/lang/IndexOutOfBoundsException", w')) : MJ l yL_holds (wmH yL_holds cL_holds 5 (some .int) [(0, 10, 13, 24)]) rx_L_holds D [(cI, .int), (cZ, .boolean), (cJ, .long)] (wL cI cZ cJ ad o f u) (wL cI cZ cJ ad o f w') [.ref (ad 0), .int p0, .int p1, .ref o] 1 1 6 := by
  intro sz
  refine va_MetW (cc := cL_holds) (maxL := 5) (ret := some .int) (hh := [(0, 10, 13, 24)]) (by decide) rfl ?_
  intro p e s m args below meth c s₁ B hml hv
  obtain ⟨rfl, hsz, hP, hK, hD0, hZ⟩ := hv
  have hx := B.exec
  have hb := B.bytes
  have hr := B.returns
  have hts0 := atoms_spec (ws := wmH yL_holds cL_holds 5 (some .int) [(0, 10, 13, 24)]) B.pre
  have hts : ∀ w ∈ Wall, w.before _ s = true := fun w hw => hts0 w (List.mem_cons_of_mem _ hw)
  have hown : s.vm.findClass RL = some m.cls := findClass_of_methodNamed B.named
  have hlocks := B.notSynchronized
  subst hsz
  have hD := hD0.self (sz := s.heap.size)
  generalize hAe : va_A (wL cI cZ cJ ad o f u) s.heap.size = A at hD hZ ⊢
  have hA : ∀ q : Nat, s.heap.size ≤ q → A q := fun q h => by rw [← hAe]; exact Or.inr h
  have hS : va_S A s.heap s.heap [] := va_S.rf
  have hT := vx_table (x := yL_holds) B (hts0 _ List.mem_cons_self)
  have hl := lv_entry ([.ref (ad 0), .int p0, .int p1, .ref o]) (n := 5) (Nat.le_of_ble_eq_true rfl)
  rw [lg_entry_eq]
  generalize (lg_sl ([.ref (ad 0), .int p0, .int p1, .ref o]) ++ List.replicate (5 - (lg_sl ([.ref (ad 0), .int p0, .int p1, .ref o])).length) Slot.unset).toArray = ls at hl ⊢
  replace hl : lv_has ls 5 [(0, .ref (ad 0)), (1, .int p0), (2, .int p1), (3, .ref o)] := hl
  refine w_gen (fun Q hQ => ?_)
  refine lv_aload_n hx hb dL_holds_0 rfl (lv_at hl 3 rfl) ?_
  refine lv_iconst (v := 0) hx hb dL_holds_1 (by decide) ?_
  refine lv_aload_n hx hb dL_holds_2 rfl (lv_at hl 0 rfl) ?_
  refine lv_iload_n hx hb dL_holds_3 rfl (lv_at hl 1 rfl) ?_
  refine lv_iload_n hx hb dL_holds_4 rfl (lv_at hl 2 rfl) ?_
  refine cX_iVF (As := [.int p0, .int p1]) (rest := [.int 0, .ref o]) (wr := [(o, .inl (cJ, 1, .inr (.inl f)))]) ⟨hx, hb, hml, hown, hts⟩ (kx_X9_holds l hl0 D cI cZ ad u p0 p1 h) (cwV 2 hts (gwV mw_588 mw_589 mw_590 mw_48 mw_591) rfl rfl rfl (by decide +kernel) ⟨Nat.le_of_ble_eq_true rfl, Nat.le_of_ble_eq_true rfl⟩) (hK.sub [0, 1] rfl) hP hD hS hA hZ [1, 2, 3, 4, 5, 6, 7, 8, 9, 10, 11, 12, 13, 14, 15, 16, 17, 18, 19, 20, 21, 22, 23, 24, 25, 26, 27, 28, 29, 30, 31, 32, 33, 34, 35] [0] rfl rfl (by decide) rfl (by decide) (by decide) (ci := 9) (q0 := 0) rfl rfl rfl hl.1 rfl (Nat.le_of_ble_eq_true rfl) dL_holds_5 ⟨Nat.le_of_ble_eq_true rfl, Nat.le_of_ble_eq_true rfl⟩ (fun ce q9 H locs hP hD hS h1 h2 h3 => ?_)
  replace hP : va_P D vwCl (wL cI cZ cJ ad o f w') H := hP
  replace hD : va_D A (wL cI cZ cJ ad o f w') := hD
  refine vx_catch (name := "java/lang/IndexOutOfBoundsException") hown [] ⟨0, 10, 13, 24⟩ [] hT (fun _ h => absurd h List.not_mem_nil) (by decide) (by decide) (hts _ mw_587) (va_Nw.use rfl (hZ.2.2.2.2.2.2.2.2.2.1 "java/lang/IndexOutOfBoundsException" (by decide +kernel))) h1 h2 h3 ?_
  refine lv_astore (lv' := [(4, .ref q9), (0, .ref (ad 0)), (1, .int p0), (2, .int p1), (3, .ref o)]) hx hb dL_holds_13 hl (by decide) rfl (fun ls hl => ?_)
  refine lv_iconst (v := 1) hx hb dL_holds_15 (by decide) ?_
  exact cc_retC hx hb hr rfl hQ hK hP hD hS rfl dL_holds_16 hlocks

def rL_vehicles : Room := { frames := 2, cells := 0, slots := 0, locals := 43 }
def rx_L_vehicles : Room := { frames := 8, cells := 1, slots := 6, locals := 131 }
set_option maxHeartbeats 4000000 in
set_option maxRecDepth 100000 in
theorem k_L_vehicles (l : Launch) (D : va_G) (cI cZ cJ : ClassId) (ad : Nat → Nat) (o : Nat) (f : Nat → Int64) (u : GS) (p0 : Int32) {r : Int32} {w' : GS} (h : g_X9_vehicles u p0 = some (.inl r, w')) : MJ l yL_vehicles (wmH yL_vehicles cL_vehicles 4 (some .int) [(0, 9, 12, 13)]) rL_vehicles D [(cI, .int), (cZ, .boolean), (cJ, .long)] (wL cI cZ cJ ad o f u) (wL cI cZ cJ ad o (vp_updL f (0 : Int32).toNatClampNeg r.toInt64) w') [.ref (ad 0), .int p0, .ref o] 0 0 0 := by
  intro sz
  refine va_MetW (cc := cL_vehicles) (maxL := 4) (ret := some .int) (hh := [(0, 9, 12, 13)]) (by decide) rfl ?_
  intro p e s m args below meth c s₁ B hml hv
  obtain ⟨rfl, hsz, hP, hK, hD0, hZ⟩ := hv
  have hx := B.exec
  have hb := B.bytes
  have hr := B.returns
  have hts0 := atoms_spec (ws := wmH yL_vehicles cL_vehicles 4 (some .int) [(0, 9, 12, 13)]) B.pre
  have hts : ∀ w ∈ Wall, w.before _ s = true := fun w hw => hts0 w (List.mem_cons_of_mem _ hw)
  have hown : s.vm.findClass RL = some m.cls := findClass_of_methodNamed B.named
  have hlocks := B.notSynchronized
  subst hsz
  have hD := hD0.self (sz := s.heap.size)
  generalize hAe : va_A (wL cI cZ cJ ad o f u) s.heap.size = A at hD hZ ⊢
  have hA : ∀ q : Nat, s.heap.size ≤ q → A q := fun q h => by rw [← hAe]; exact Or.inr h
  have hS : va_S A s.heap s.heap [] := va_S.rf
  have hl := lv_entry ([.ref (ad 0), .int p0, .ref o]) (n := 4) (Nat.le_of_ble_eq_true rfl)
  rw [lg_entry_eq]
  generalize (lg_sl ([.ref (ad 0), .int p0, .ref o]) ++ List.replicate (4 - (lg_sl ([.ref (ad 0), .int p0, .ref o])).length) Slot.unset).toArray = ls at hl ⊢
  replace hl : lv_has ls 4 [(0, .ref (ad 0)), (1, .int p0), (2, .ref o)] := hl
  refine w_gen (fun Q hQ => ?_)
  refine lv_aload_n hx hb dL_vehicles_0 rfl (lv_at hl 2 rfl) ?_
  refine lv_iconst (v := 0) hx hb dL_vehicles_1 (by decide) ?_
  refine lv_aload_n hx hb dL_vehicles_2 rfl (lv_at hl 0 rfl) ?_
  refine lv_iload_n hx hb dL_vehicles_3 rfl (lv_at hl 1 rfl) ?_
  refine cc_iVF (As := [.int p0]) (rest := [.int 0, .ref o]) (wr := [(o, .inl (cJ, 1, .inr (.inl f)))]) ⟨hx, hb, hml, hown, hts⟩ (k_X9_vehicles l D cI cZ ad u p0 h) (cwV 1 hts (gwV mw_621 mw_622 mw_623 mw_48 mw_624) rfl rfl rfl (by decide +kernel) ⟨Nat.le_of_ble_eq_true rfl, Nat.le_of_ble_eq_true rfl⟩) (hK.sub [0, 1] rfl) hP hD hS hA hZ [1, 2, 3, 4, 5, 6, 7, 8, 9, 10, 11, 12, 13, 14, 15, 16, 17, 18, 19, 20, 21, 22, 23, 24, 25, 26, 27, 28, 29, 30, 31, 32, 33, 34, 35] [0] rfl rfl (by decide) rfl (by decide) (by decide) (ci := 9) (q0 := 0) rfl rfl rfl hl.1 rfl (Nat.le_of_ble_eq_true rfl) dL_vehicles_4 ⟨Nat.zero_le _, Nat.zero_le _⟩ (fun H locs hP hD hS => ?_)
  replace hP : va_P D vwCl (wL cI cZ cJ ad o f w') H := hP
  replace hD : va_D A (wL cI cZ cJ ad o f w') := hD
  refine lv_i2l (v := r.toInt64) hx hb dL_vehicles_7 rfl ?_
  refine va_last (D := D) hx hb hK hP hD hS 0 2 rfl rfl (by unfold vp_in; decide) dL_vehicles_8 (fun H locs hP hD hS => ?_)
  replace hP : va_P D vwCl (wL cI cZ cJ ad o (vp_updL f (0 : Int32).toNatClampNeg r.toInt64) w') H := hP
  replace hD : va_D A (wL cI cZ cJ ad o (vp_updL f (0 : Int32).toNatClampNeg r.toInt64) w') := hD
  refine lv_goto (tgt := 15) hx hb dL_vehicles_9 (by decide) ?_
  refine lv_iconst (v := 0) hx hb dL_vehicles_15 (by decide) ?_
  exact cc_retC hx hb hr rfl hQ hK hP hD hS rfl dL_vehicles_16 hlocks
set_option maxHeartbeats 4000000 in
set_option maxRecDepth 100000 in
theorem kx1_L_vehicles (l : Launch) (hl0 : l.stackTraces = false) (D : va_G) (cI cZ cJ : ClassId) (ad : Nat → Nat) (o : Nat) (f : Nat → Int64) (u : GS) (p0 : Int32) {w' : GS} (h : g_X9_vehicles u p0 = some (.inr "java/lang/IllegalArgumentException", w')) : MJ l yL_vehicles (wmH yL_vehicles cL_vehicles 4 (some .int) [(0, 9, 12, 13)]) rx_L_vehicles D [(cI, .int), (cZ, .boolean), (cJ, .long)] (wL cI cZ cJ ad o f u) (wL cI cZ cJ ad o f w') [.ref (ad 0), .int p0, .ref o] 1 1 6 := by
  intro sz
  refine va_MetW (cc := cL_vehicles) (maxL := 4) (ret := some .int) (hh := [(0, 9, 12, 13)]) (by decide) rfl ?_
  intro p e s m args below meth c s₁ B hml hv
  obtain ⟨rfl, hsz, hP, hK, hD0, hZ⟩ := hv
  have hx := B.exec
  have hb := B.bytes
  have hr := B.returns
  have hts0 := atoms_spec (ws := wmH yL_vehicles cL_vehicles 4 (some .int) [(0, 9, 12, 13)]) B.pre
  have hts : ∀ w ∈ Wall, w.before _ s = true := fun w hw => hts0 w (List.mem_cons_of_mem _ hw)
  have hown : s.vm.findClass RL = some m.cls := findClass_of_methodNamed B.named
  have hlocks := B.notSynchronized
  subst hsz
  have hD := hD0.self (sz := s.heap.size)
  generalize hAe : va_A (wL cI cZ cJ ad o f u) s.heap.size = A at hD hZ ⊢
  have hA : ∀ q : Nat, s.heap.size ≤ q → A q := fun q h => by rw [← hAe]; exact Or.inr h
  have hS : va_S A s.heap s.heap [] := va_S.rf
  have hT := vx_table (x := yL_vehicles) B (hts0 _ List.mem_cons_self)
  have hl := lv_entry ([.ref (ad 0), .int p0, .ref o]) (n := 4) (Nat.le_of_ble_eq_true rfl)
  rw [lg_entry_eq]
  generalize (lg_sl ([.ref (ad 0), .int p0, .ref o]) ++ List.replicate (4 - (lg_sl ([.ref (ad 0), .int p0, .ref o])).length) Slot.unset).toArray = ls at hl ⊢
  replace hl : lv_has ls 4 [(0, .ref (ad 0)), (1, .int p0), (2, .ref o)] := hl
  refine w_gen (fun Q hQ => ?_)
  refine lv_aload_n hx hb dL_vehicles_0 rfl (lv_at hl 2 rfl) ?_
  refine lv_iconst (v := 0) hx hb dL_vehicles_1 (by decide) ?_
  refine lv_aload_n hx hb dL_vehicles_2 rfl (lv_at hl 0 rfl) ?_
  refine lv_iload_n hx hb dL_vehicles_3 rfl (lv_at hl 1 rfl) ?_
  refine cX_iVF (As := [.int p0]) (rest := [.int 0, .ref o]) (wr := [(o, .inl (cJ, 1, .inr (.inl f)))]) ⟨hx, hb, hml, hown, hts⟩ (kx_X9_vehicles l hl0 D cI cZ ad u p0 h) (cwV 1 hts (gwV mw_621 mw_622 mw_623 mw_48 mw_624) rfl rfl rfl (by decide +kernel) ⟨Nat.le_of_ble_eq_true rfl, Nat.le_of_ble_eq_true rfl⟩) (hK.sub [0, 1] rfl) hP hD hS hA hZ [1, 2, 3, 4, 5, 6, 7, 8, 9, 10, 11, 12, 13, 14, 15, 16, 17, 18, 19, 20, 21, 22, 23, 24, 25, 26, 27, 28, 29, 30, 31, 32, 33, 34, 35] [0] rfl rfl (by decide) rfl (by decide) (by decide) (ci := 9) (q0 := 0) rfl rfl rfl hl.1 rfl (Nat.le_of_ble_eq_true rfl) dL_vehicles_4 ⟨Nat.le_of_ble_eq_true rfl, Nat.le_of_ble_eq_true rfl⟩ (fun ce q9 H locs hP hD hS h1 h2 h3 => ?_)
  replace hP : va_P D vwCl (wL cI cZ cJ ad o f w') H := hP
  replace hD : va_D A (wL cI cZ cJ ad o f w') := hD
  refine vx_catch (name := "java/lang/IllegalArgumentException") hown [] ⟨0, 9, 12, 13⟩ [] hT (fun _ h => absurd h List.not_mem_nil) (by decide) (by decide) (hts _ mw_386) (va_Nw.use rfl (hZ.2.2.2.2.2.2.2.2.2.1 "java/lang/IllegalArgumentException" (by decide +kernel))) h1 h2 h3 ?_
  refine lv_astore_n (lv' := [(3, .ref q9), (0, .ref (ad 0)), (1, .int p0), (2, .ref o)]) hx hb dL_vehicles_12 rfl hl (by decide) rfl (fun ls hl => ?_)
  refine lv_iconst (v := 1) hx hb dL_vehicles_13 (by decide) ?_
  exact cc_retC hx hb hr rfl hQ hK hP hD hS rfl dL_vehicles_14 hlocks

def rL_section : Room := { frames := 5, cells := 0, slots := 0, locals := 116 }
def rx_L_section : Room := { frames := 9, cells := 1, slots := 6, locals := 152 }
set_option maxHeartbeats 4000000 in
set_option maxRecDepth 100000 in
theorem k_L_section (l : Launch) (D : va_G) (cI cZ cJ : ClassId) (ad : Nat → Nat) (o : Nat) (f : Nat → Int64) (u : GS) (p0 : Int32) (p1 : Int32) {r : Int32} {w' : GS} (h : g_X9_section u p0 p1 = some (.inl r, w')) : MJ l yL_section (wmH yL_section cL_section 5 (some .int) [(0, 10, 13, 24), (0, 10, 17, 13)]) rL_section D [(cI, .int), (cZ, .boolean), (cJ, .long)] (wL cI cZ cJ ad o f u) (wL cI cZ cJ ad o (vp_updL f (0 : Int32).toNatClampNeg r.toInt64) w') [.ref (ad 0), .int p0, .int p1, .ref o] 0 0 0 := by
  intro sz
  refine va_MetW (cc := cL_section) (maxL := 5) (ret := some .int) (hh := [(0, 10, 13, 24), (0, 10, 17, 13)]) (by decide) rfl ?_
  intro p e s m args below meth c s₁ B hml hv
  obtain ⟨rfl, hsz, hP, hK, hD0, hZ⟩ := hv
  have hx := B.exec
  have hb := B.bytes
  have hr := B.returns
  have hts0 := atoms_spec (ws := wmH yL_section cL_section 5 (some .int) [(0, 10, 13, 24), (0, 10, 17, 13)]) B.pre
  have hts : ∀ w ∈ Wall, w.before _ s = true := fun w hw => hts0 w (List.mem_cons_of_mem _ hw)
  have hown : s.vm.findClass RL = some m.cls := findClass_of_methodNamed B.named
  have hlocks := B.notSynchronized
  subst hsz
  have hD := hD0.self (sz := s.heap.size)
  generalize hAe : va_A (wL cI cZ cJ ad o f u) s.heap.size = A at hD hZ ⊢
  have hA : ∀ q : Nat, s.heap.size ≤ q → A q := fun q h => by rw [← hAe]; exact Or.inr h
  have hS : va_S A s.heap s.heap [] := va_S.rf
  have hl := lv_entry ([.ref (ad 0), .int p0, .int p1, .ref o]) (n := 5) (Nat.le_of_ble_eq_true rfl)
  rw [lg_entry_eq]
  generalize (lg_sl ([.ref (ad 0), .int p0, .int p1, .ref o]) ++ List.replicate (5 - (lg_sl ([.ref (ad 0), .int p0, .int p1, .ref o])).length) Slot.unset).toArray = ls at hl ⊢
  replace hl : lv_has ls 5 [(0, .ref (ad 0)), (1, .int p0), (2, .int p1), (3, .ref o)] := hl
  refine w_gen (fun Q hQ => ?_)
  refine lv_aload_n hx hb dL_section_0 rfl (lv_at hl 3 rfl) ?_
  refine lv_iconst (v := 0) hx hb dL_section_1 (by decide) ?_
  refine lv_aload_n hx hb dL_section_2 rfl (lv_at hl 0 rfl) ?_
  refine lv_iload_n hx hb dL_section_3 rfl (lv_at hl 1 rfl) ?_
  refine lv_iload_n hx hb dL_section_4 rfl (lv_at hl 2 rfl) ?_
  refine cc_iVF (As := [.int p0, .int p1]) (rest := [.int 0, .ref o]) (wr := [(o, .inl (cJ, 1, .inr (.inl f)))]) ⟨hx, hb, hml, hown, hts⟩ (k_X9_section l D cI cZ ad u p0 p1 h) (cwV 2 hts (gwV mw_632 mw_633 mw_634 mw_48 mw_635) rfl rfl rfl (by decide +kernel) ⟨Nat.le_of_ble_eq_true rfl, Nat.le_of_ble_eq_true rfl⟩) (hK.sub [0, 1] rfl) hP hD hS hA hZ [1, 2, 3, 4, 5, 6, 7, 8, 9, 10, 11, 12, 13, 14, 15, 16, 17, 18, 19, 20, 21, 22, 23, 24, 25, 26, 27, 28, 29, 30, 31, 32, 33, 34, 35] [0] rfl rfl (by decide) rfl (by decide) (by decide) (ci := 9) (q0 := 0) rfl rfl rfl hl.1 rfl (Nat.le_of_ble_eq_true rfl) dL_section_5 ⟨Nat.zero_le _, Nat.zero_le _⟩ (fun H locs hP hD hS => ?_)
  replace hP : va_P D vwCl (wL cI cZ cJ ad o f w') H := hP
  replace hD : va_D A (wL cI cZ cJ ad o f w') := hD
  refine lv_i2l (v := r.toInt64) hx hb dL_section_8 rfl ?_
  refine va_last (D := D) hx hb hK hP hD hS 0 2 rfl rfl (by unfold vp_in; decide) dL_section_9 (fun H locs hP hD hS => ?_)
  replace hP : va_P D vwCl (wL cI cZ cJ ad o (vp_updL f (0 : Int32).toNatClampNeg r.toInt64) w') H := hP
  replace hD : va_D A (wL cI cZ cJ ad o (vp_updL f (0 : Int32).toNatClampNeg r.toInt64) w') := hD
  refine lv_goto (tgt := 21) hx hb dL_section_10 (by decide) ?_
  refine lv_iconst (v := 0) hx hb dL_section_21 (by decide) ?_
  exact cc_retC hx hb hr rfl hQ hK hP hD hS rfl dL_section_22 hlocks
set_option maxHeartbeats 4000000 in
set_option maxRecDepth 100000 in
theorem kx1_L_section (l : Launch) (hl0 : l.stackTraces = false) (D : va_G) (cI cZ cJ : ClassId) (ad : Nat → Nat) (o : Nat) (f : Nat → Int64) (u : GS) (p0 : Int32) (p1 : Int32) {w' : GS} (h : g_X9_section u p0 p1 = some (.inr "java/lang/IndexOutOfBoundsException", w')) : MJ l yL_section (wmH yL_section cL_section 5 (some .int) [(0, 10, 13, 24), (0, 10, 17, 13)]) rx_L_section D [(cI, .int), (cZ, .boolean), (cJ, .long)] (wL cI cZ cJ ad o f u) (wL cI cZ cJ ad o f w') [.ref (ad 0), .int p0, .int p1, .ref o] 1 1 6 := by
  intro sz
  refine va_MetW (cc := cL_section) (maxL := 5) (ret := some .int) (hh := [(0, 10, 13, 24), (0, 10, 17, 13)]) (by decide) rfl ?_
  intro p e s m args below meth c s₁ B hml hv
  obtain ⟨rfl, hsz, hP, hK, hD0, hZ⟩ := hv
  have hx := B.exec
  have hb := B.bytes
  have hr := B.returns
  have hts0 := atoms_spec (ws := wmH yL_section cL_section 5 (some .int) [(0, 10, 13, 24), (0, 10, 17, 13)]) B.pre
  have hts : ∀ w ∈ Wall, w.before _ s = true := fun w hw => hts0 w (List.mem_cons_of_mem _ hw)
  have hown : s.vm.findClass RL = some m.cls := findClass_of_methodNamed B.named
  have hlocks := B.notSynchronized
  subst hsz
  have hD := hD0.self (sz := s.heap.size)
  generalize hAe : va_A (wL cI cZ cJ ad o f u) s.heap.size = A at hD hZ ⊢
  have hA : ∀ q : Nat, s.heap.size ≤ q → A q := fun q h => by rw [← hAe]; exact Or.inr h
  have hS : va_S A s.heap s.heap [] := va_S.rf
  have hT := vx_table (x := yL_section) B (hts0 _ List.mem_cons_self)
  have hl := lv_entry ([.ref (ad 0), .int p0, .int p1, .ref o]) (n := 5) (Nat.le_of_ble_eq_true rfl)
  rw [lg_entry_eq]
  generalize (lg_sl ([.ref (ad 0), .int p0, .int p1, .ref o]) ++ List.replicate (5 - (lg_sl ([.ref (ad 0), .int p0, .int p1, .ref o])).length) Slot.unset).toArray = ls at hl ⊢
  replace hl : lv_has ls 5 [(0, .ref (ad 0)), (1, .int p0), (2, .int p1), (3, .ref o)] := hl
  refine w_gen (fun Q hQ => ?_)
  refine lv_aload_n hx hb dL_section_0 rfl (lv_at hl 3 rfl) ?_
  refine lv_iconst (v := 0) hx hb dL_section_1 (by decide) ?_
  refine lv_aload_n hx hb dL_section_2 rfl (lv_at hl 0 rfl) ?_
  refine lv_iload_n hx hb dL_section_3 rfl (lv_at hl 1 rfl) ?_
  refine lv_iload_n hx hb dL_section_4 rfl (lv_at hl 2 rfl) ?_
  refine cX_iVF (As := [.int p0, .int p1]) (rest := [.int 0, .ref o]) (wr := [(o, .inl (cJ, 1, .inr (.inl f)))]) ⟨hx, hb, hml, hown, hts⟩ (kx_X9_section l hl0 D cI cZ ad u p0 p1 h) (cwV 2 hts (gwV mw_632 mw_633 mw_634 mw_48 mw_635) rfl rfl rfl (by decide +kernel) ⟨Nat.le_of_ble_eq_true rfl, Nat.le_of_ble_eq_true rfl⟩) (hK.sub [0, 1] rfl) hP hD hS hA hZ [1, 2, 3, 4, 5, 6, 7, 8, 9, 10, 11, 12, 13, 14, 15, 16, 17, 18, 19, 20, 21, 22, 23, 24, 25, 26, 27, 28, 29, 30, 31, 32, 33, 34, 35] [0] rfl rfl (by decide) rfl (by decide) (by decide) (ci := 9) (q0 := 0) rfl rfl rfl hl.1 rfl (Nat.le_of_ble_eq_true rfl) dL_section_5 ⟨Nat.le_of_ble_eq_true rfl, Nat.le_of_ble_eq_true rfl⟩ (fun ce q9 H locs hP hD hS h1 h2 h3 => ?_)
  replace hP : va_P D vwCl (wL cI cZ cJ ad o f w') H := hP
  replace hD : va_D A (wL cI cZ cJ ad o f w') := hD
  refine vx_catch (name := "java/lang/IndexOutOfBoundsException") hown [] ⟨0, 10, 13, 24⟩ [⟨0, 10, 17, 13⟩] hT (fun _ h => absurd h List.not_mem_nil) (by decide) (by decide) (hts _ mw_587) (va_Nw.use rfl (hZ.2.2.2.2.2.2.2.2.2.1 "java/lang/IndexOutOfBoundsException" (by decide +kernel))) h1 h2 h3 ?_
  refine lv_astore (lv' := [(4, .ref q9), (0, .ref (ad 0)), (1, .int p0), (2, .int p1), (3, .ref o)]) hx hb dL_section_13 hl (by decide) rfl (fun ls hl => ?_)
  refine lv_iconst (v := 1) hx hb dL_section_15 (by decide) ?_
  exact cc_retC hx hb hr rfl hQ hK hP hD hS rfl dL_section_16 hlocks
set_option maxHeartbeats 4000000 in
set_option maxRecDepth 100000 in
theorem kx2_L_section (l : Launch) (hl0 : l.stackTraces = false) (D : va_G) (cI cZ cJ : ClassId) (ad : Nat → Nat) (o : Nat) (f : Nat → Int64) (u : GS) (p0 : Int32) (p1 : Int32) {w' : GS} (h : g_X9_section u p0 p1 = some (.inr "java/lang/IllegalArgumentException", w')) : MJ l yL_section (wmH yL_section cL_section 5 (some .int) [(0, 10, 13, 24), (0, 10, 17, 13)]) rx_L_section D [(cI, .int), (cZ, .boolean), (cJ, .long)] (wL cI cZ cJ ad o f u) (wL cI cZ cJ ad o f w') [.ref (ad 0), .int p0, .int p1, .ref o] 2 1 6 := by
  intro sz
  refine va_MetW (cc := cL_section) (maxL := 5) (ret := some .int) (hh := [(0, 10, 13, 24), (0, 10, 17, 13)]) (by decide) rfl ?_
  intro p e s m args below meth c s₁ B hml hv
  obtain ⟨rfl, hsz, hP, hK, hD0, hZ⟩ := hv
  have hx := B.exec
  have hb := B.bytes
  have hr := B.returns
  have hts0 := atoms_spec (ws := wmH yL_section cL_section 5 (some .int) [(0, 10, 13, 24), (0, 10, 17, 13)]) B.pre
  have hts : ∀ w ∈ Wall, w.before _ s = true := fun w hw => hts0 w (List.mem_cons_of_mem _ hw)
  have hown : s.vm.findClass RL = some m.cls := findClass_of_methodNamed B.named
  have hlocks := B.notSynchronized
  subst hsz
  have hD := hD0.self (sz := s.heap.size)
  generalize hAe : va_A (wL cI cZ cJ ad o f u) s.heap.size = A at hD hZ ⊢
  have hA : ∀ q : Nat, s.heap.size ≤ q → A q := fun q h => by rw [← hAe]; exact Or.inr h
  have hS : va_S A s.heap s.heap [] := va_S.rf
  have hT := vx_table (x := yL_section) B (hts0 _ List.mem_cons_self)
  have hl := lv_entry ([.ref (ad 0), .int p0, .int p1, .ref o]) (n := 5) (Nat.le_of_ble_eq_true rfl)
  rw [lg_entry_eq]
  generalize (lg_sl ([.ref (ad 0), .int p0, .int p1, .ref o]) ++ List.replicate (5 - (lg_sl ([.ref (ad 0), .int p0, .int p1, .ref o])).length) Slot.unset).toArray = ls at hl ⊢
  replace hl : lv_has ls 5 [(0, .ref (ad 0)), (1, .int p0), (2, .int p1), (3, .ref o)] := hl
  refine w_gen (fun Q hQ => ?_)
  refine lv_aload_n hx hb dL_section_0 rfl (lv_at hl 3 rfl) ?_
  refine lv_iconst (v := 0) hx hb dL_section_1 (by decide) ?_
  refine lv_aload_n hx hb dL_section_2 rfl (lv_at hl 0 rfl) ?_
  refine lv_iload_n hx hb dL_section_3 rfl (lv_at hl 1 rfl) ?_
  refine lv_iload_n hx hb dL_section_4 rfl (lv_at hl 2 rfl) ?_
  refine cX_iVF (As := [.int p0, .int p1]) (rest := [.int 0, .ref o]) (wr := [(o, .inl (cJ, 1, .inr (.inl f)))]) ⟨hx, hb, hml, hown, hts⟩ (kx_X9_section l hl0 D cI cZ ad u p0 p1 h) (cwV 2 hts (gwV mw_632 mw_633 mw_634 mw_48 mw_635) rfl rfl rfl (by decide +kernel) ⟨Nat.le_of_ble_eq_true rfl, Nat.le_of_ble_eq_true rfl⟩) (hK.sub [0, 1] rfl) hP hD hS hA hZ [1, 2, 3, 4, 5, 6, 7, 8, 9, 10, 11, 12, 13, 14, 15, 16, 17, 18, 19, 20, 21, 22, 23, 24, 25, 26, 27, 28, 29, 30, 31, 32, 33, 34, 35] [0] rfl rfl (by decide) rfl (by decide) (by decide) (ci := 9) (q0 := 0) rfl rfl rfl hl.1 rfl (Nat.le_of_ble_eq_true rfl) dL_section_5 ⟨Nat.le_of_ble_eq_true rfl, Nat.le_of_ble_eq_true rfl⟩ (fun ce q9 H locs hP hD hS h1 h2 h3 => ?_)
  replace hP : va_P D vwCl (wL cI cZ cJ ad o f w') H := hP
  replace hD : va_D A (wL cI cZ cJ ad o f w') := hD
  refine vx_catch (name := "java/lang/IllegalArgumentException") hown [⟨0, 10, 13, 24⟩] ⟨0, 10, 17, 13⟩ [] hT (List.forall_mem_cons.mpr ⟨Or.inr ⟨by decide, "java/lang/IndexOutOfBoundsException", hts _ mw_587, hZ.2.2.2.2.2.2.2.2.2.2 ("java/lang/IllegalArgumentException", "java/lang/IndexOutOfBoundsException") (by decide +kernel)⟩, (fun _ h => absurd h List.not_mem_nil)⟩) (by decide) (by decide) (hts _ mw_386) (va_Nw.use rfl (hZ.2.2.2.2.2.2.2.2.2.1 "java/lang/IllegalArgumentException" (by decide +kernel))) h1 h2 h3 ?_
  refine lv_astore (lv' := [(4, .ref q9), (0, .ref (ad 0)), (1, .int p0), (2, .int p1), (3, .ref o)]) hx hb dL_section_17 hl (by decide) rfl (fun ls hl => ?_)
  refine lv_iconst (v := 2) hx hb dL_section_19 (by decide) ?_
  exact cc_retC hx hb hr rfl hQ hK hP hD hS rfl dL_section_20 hlocks

def rL_detector : Room := { frames := 3, cells := 0, slots := 0, locals := 66 }
def rx_L_detector : Room := { frames := 9, cells := 1, slots := 6, locals := 154 }
set_option maxHeartbeats 4000000 in
set_option maxRecDepth 100000 in
theorem k_L_detector (l : Launch) (D : va_G) (cI cZ cJ : ClassId) (ad : Nat → Nat) (o : Nat) (f : Nat → Int64) (u : GS) (p0 : Int32) (p1 : Int32) (p2 : Int32) {r : Int32} {w' : GS} (h : g_X9_detector u p0 p1 p2 = some (.inl r, w')) : MJ l yL_detector (wmH yL_detector cL_detector 6 (some .int) [(0, 12, 15, 24), (0, 12, 19, 13)]) rL_detector D [(cI, .int), (cZ, .boolean), (cJ, .long)] (wL cI cZ cJ ad o f u) (wL cI cZ cJ ad o (vp_updL f (0 : Int32).toNatClampNeg r.toInt64) w') [.ref (ad 0), .int p0, .int p1, .int p2, .ref o] 0 0 0 := by
  intro sz
  refine va_MetW (cc := cL_detector) (maxL := 6) (ret := some .int) (hh := [(0, 12, 15, 24), (0, 12, 19, 13)]) (by decide) rfl ?_
  intro p e s m args below meth c s₁ B hml hv
  obtain ⟨rfl, hsz, hP, hK, hD0, hZ⟩ := hv
  have hx := B.exec
  have hb := B.bytes
  have hr := B.returns
  have hts0 := atoms_spec (ws := wmH yL_detector cL_detector 6 (some .int) [(0, 12, 15, 24), (0, 12, 19, 13)]) B.pre
  have hts : ∀ w ∈ Wall, w.before _ s = true := fun w hw => hts0 w (List.mem_cons_of_mem _ hw)
  have hown : s.vm.findClass RL = some m.cls := findClass_of_methodNamed B.named
  have hlocks := B.notSynchronized
  subst hsz
  have hD := hD0.self (sz := s.heap.size)
  generalize hAe : va_A (wL cI cZ cJ ad o f u) s.heap.size = A at hD hZ ⊢
  have hA : ∀ q : Nat, s.heap.size ≤ q → A q := fun q h => by rw [← hAe]; exact Or.inr h
  have hS : va_S A s.heap s.heap [] := va_S.rf
  have hl := lv_entry ([.ref (ad 0), .int p0, .int p1, .int p2, .ref o]) (n := 6) (Nat.le_of_ble_eq_true rfl)
  rw [lg_entry_eq]
  generalize (lg_sl ([.ref (ad 0), .int p0, .int p1, .int p2, .ref o]) ++ List.replicate (6 - (lg_sl ([.ref (ad 0), .int p0, .int p1, .int p2, .ref o])).length) Slot.unset).toArray = ls at hl ⊢
  replace hl : lv_has ls 6 [(0, .ref (ad 0)), (1, .int p0), (2, .int p1), (3, .int p2), (4, .ref o)] := hl
  refine w_gen (fun Q hQ => ?_)
  refine lv_aload hx hb dL_detector_0 (lv_at hl 4 rfl) ?_
  refine lv_iconst (v := 0) hx hb dL_detector_2 (by decide) ?_
  refine lv_aload_n hx hb dL_detector_3 rfl (lv_at hl 0 rfl) ?_
  refine lv_iload_n hx hb dL_detector_4 rfl (lv_at hl 1 rfl) ?_
  refine lv_iload_n hx hb dL_detector_5 rfl (lv_at hl 2 rfl) ?_
  refine lv_iload_n hx hb dL_detector_6 rfl (lv_at hl 3 rfl) ?_
  refine cc_iVF (As := [.int p0, .int p1, .int p2]) (rest := [.int 0, .ref o]) (wr := [(o, .inl (cJ, 1, .inr (.inl f)))]) ⟨hx, hb, hml, hown, hts⟩ (k_X9_detector l D cI cZ ad u p0 p1 p2 h) (cwV 3 hts (gwV mw_641 mw_642 mw_643 mw_48 mw_644) rfl rfl rfl (by decide +kernel) ⟨Nat.le_of_ble_eq_true rfl, Nat.le_of_ble_eq_true rfl⟩) (hK.sub [0, 1] rfl) hP hD hS hA hZ [1, 2, 3, 4, 5, 6, 7, 8, 9, 10, 11, 12, 13, 14, 15, 16, 17, 18, 19, 20, 21, 22, 23, 24, 25, 26, 27, 28, 29, 30, 31, 32, 33, 34, 35] [0] rfl rfl (by decide) rfl (by decide) (by decide) (ci := 9) (q0 := 0) rfl rfl rfl hl.1 rfl (Nat.le_of_ble_eq_true rfl) dL_detector_7 ⟨Nat.zero_le _, Nat.zero_le _⟩ (fun H locs hP hD hS => ?_)
  replace hP : va_P D vwCl (wL cI cZ cJ ad o f w') H := hP
  replace hD : va_D A (wL cI cZ cJ ad o f w') := hD
  refine lv_i2l (v := r.toInt64) hx hb dL_detector_10 rfl ?_
  refine va_last (D := D) hx hb hK hP hD hS 0 2 rfl rfl (by unfold vp_in; decide) dL_detector_11 (fun H locs hP hD hS => ?_)
  replace hP : va_P D vwCl (wL cI cZ cJ ad o (vp_updL f (0 : Int32).toNatClampNeg r.toInt64) w') H := hP
  replace hD : va_D A (wL cI cZ cJ ad o (vp_updL f (0 : Int32).toNatClampNeg r.toInt64) w') := hD
  refine lv_goto (tgt := 23) hx hb dL_detector_12 (by decide) ?_
  refine lv_iconst (v := 0) hx hb dL_detector_23 (by decide) ?_
  exact cc_retC hx hb hr rfl hQ hK hP hD hS rfl dL_detector_24 hlocks
set_option maxHeartbeats 4000000 in
set_option maxRecDepth 100000 in
theorem kx1_L_detector (l : Launch) (hl0 : l.stackTraces = false) (D : va_G) (cI cZ cJ : ClassId) (ad : Nat → Nat) (o : Nat) (f : Nat → Int64) (u : GS) (p0 : Int32) (p1 : Int32) (p2 : Int32) {w' : GS} (h : g_X9_detector u p0 p1 p2 = some (.inr "java/lang/IndexOutOfBoundsException", w')) : MJ l yL_detector (wmH yL_detector cL_detector 6 (some .int) [(0, 12, 15, 24), (0, 12, 19, 13)]) rx_L_detector D [(cI, .int), (cZ, .boolean), (cJ, .long)] (wL cI cZ cJ ad o f u) (wL cI cZ cJ ad o f w') [.ref (ad 0), .int p0, .int p1, .int p2, .ref o] 1 1 6 := by
  intro sz
  refine va_MetW (cc := cL_detector) (maxL := 6) (ret := some .int) (hh := [(0, 12, 15, 24), (0, 12, 19, 13)]) (by decide) rfl ?_
  intro p e s m args below meth c s₁ B hml hv
  obtain ⟨rfl, hsz, hP, hK, hD0, hZ⟩ := hv
  have hx := B.exec
  have hb := B.bytes
  have hr := B.returns
  have hts0 := atoms_spec (ws := wmH yL_detector cL_detector 6 (some .int) [(0, 12, 15, 24), (0, 12, 19, 13)]) B.pre
  have hts : ∀ w ∈ Wall, w.before _ s = true := fun w hw => hts0 w (List.mem_cons_of_mem _ hw)
  have hown : s.vm.findClass RL = some m.cls := findClass_of_methodNamed B.named
  have hlocks := B.notSynchronized
  subst hsz
  have hD := hD0.self (sz := s.heap.size)
  generalize hAe : va_A (wL cI cZ cJ ad o f u) s.heap.size = A at hD hZ ⊢
  have hA : ∀ q : Nat, s.heap.size ≤ q → A q := fun q h => by rw [← hAe]; exact Or.inr h
  have hS : va_S A s.heap s.heap [] := va_S.rf
  have hT := vx_table (x := yL_detector) B (hts0 _ List.mem_cons_self)
  have hl := lv_entry ([.ref (ad 0), .int p0, .int p1, .int p2, .ref o]) (n := 6) (Nat.le_of_ble_eq_true rfl)
  rw [lg_entry_eq]
  generalize (lg_sl ([.ref (ad 0), .int p0, .int p1, .int p2, .ref o]) ++ List.replicate (6 - (lg_sl ([.ref (ad 0), .int p0, .int p1, .int p2, .ref o])).length) Slot.unset).toArray = ls at hl ⊢
  replace hl : lv_has ls 6 [(0, .ref (ad 0)), (1, .int p0), (2, .int p1), (3, .int p2), (4, .ref o)] := hl
  refine w_gen (fun Q hQ => ?_)
  refine lv_aload hx hb dL_detector_0 (lv_at hl 4 rfl) ?_
  refine lv_iconst (v := 0) hx hb dL_detector_2 (by decide) ?_
  refine lv_aload_n hx hb dL_detector_3 rfl (lv_at hl 0 rfl) ?_
  refine lv_iload_n hx hb dL_detector_4 rfl (lv_at hl 1 rfl) ?_
  refine lv_iload_n hx hb dL_detector_5 rfl (lv_at hl 2 rfl) ?_
  refine lv_iload_n hx hb dL_detector_6 rfl (lv_at hl 3 rfl) ?_
  refine cX_iVF (As := [.int p0, .int p1, .int p2]) (rest := [.int 0, .ref o]) (wr := [(o, .inl (cJ, 1, .inr (.inl f)))]) ⟨hx, hb, hml, hown, hts⟩ (kx_X9_detector l hl0 D cI cZ ad u p0 p1 p2 h) (cwV 3 hts (gwV mw_641 mw_642 mw_643 mw_48 mw_644) rfl rfl rfl (by decide +kernel) ⟨Nat.le_of_ble_eq_true rfl, Nat.le_of_ble_eq_true rfl⟩) (hK.sub [0, 1] rfl) hP hD hS hA hZ [1, 2, 3, 4, 5, 6, 7, 8, 9, 10, 11, 12, 13, 14, 15, 16, 17, 18, 19, 20, 21, 22, 23, 24, 25, 26, 27, 28, 29, 30, 31, 32, 33, 34, 35] [0] rfl rfl (by decide) rfl (by decide) (by decide) (ci := 9) (q0 := 0) rfl rfl rfl hl.1 rfl (Nat.le_of_ble_eq_true rfl) dL_detector_7 ⟨Nat.le_of_ble_eq_true rfl, Nat.le_of_ble_eq_true rfl⟩ (fun ce q9 H locs hP hD hS h1 h2 h3 => ?_)
  replace hP : va_P D vwCl (wL cI cZ cJ ad o f w') H := hP
  replace hD : va_D A (wL cI cZ cJ ad o f w') := hD
  refine vx_catch (name := "java/lang/IndexOutOfBoundsException") hown [] ⟨0, 12, 15, 24⟩ [⟨0, 12, 19, 13⟩] hT (fun _ h => absurd h List.not_mem_nil) (by decide) (by decide) (hts _ mw_587) (va_Nw.use rfl (hZ.2.2.2.2.2.2.2.2.2.1 "java/lang/IndexOutOfBoundsException" (by decide +kernel))) h1 h2 h3 ?_
  refine lv_astore (lv' := [(5, .ref q9), (0, .ref (ad 0)), (1, .int p0), (2, .int p1), (3, .int p2), (4, .ref o)]) hx hb dL_detector_15 hl (by decide) rfl (fun ls hl => ?_)
  refine lv_iconst (v := 1) hx hb dL_detector_17 (by decide) ?_
  exact cc_retC hx hb hr rfl hQ hK hP hD hS rfl dL_detector_18 hlocks
set_option maxHeartbeats 4000000 in
set_option maxRecDepth 100000 in
theorem kx2_L_detector (l : Launch) (hl0 : l.stackTraces = false) (D : va_G) (cI cZ cJ : ClassId) (ad : Nat → Nat) (o : Nat) (f : Nat → Int64) (u : GS) (p0 : Int32) (p1 : Int32) (p2 : Int32) {w' : GS} (h : g_X9_detector u p0 p1 p2 = some (.inr "java/lang/IllegalArgumentException", w')) : MJ l yL_detector (wmH yL_detector cL_detector 6 (some .int) [(0, 12, 15, 24), (0, 12, 19, 13)]) rx_L_detector D [(cI, .int), (cZ, .boolean), (cJ, .long)] (wL cI cZ cJ ad o f u) (wL cI cZ cJ ad o f w') [.ref (ad 0), .int p0, .int p1, .int p2, .ref o] 2 1 6 := by
  intro sz
  refine va_MetW (cc := cL_detector) (maxL := 6) (ret := some .int) (hh := [(0, 12, 15, 24), (0, 12, 19, 13)]) (by decide) rfl ?_
  intro p e s m args below meth c s₁ B hml hv
  obtain ⟨rfl, hsz, hP, hK, hD0, hZ⟩ := hv
  have hx := B.exec
  have hb := B.bytes
  have hr := B.returns
  have hts0 := atoms_spec (ws := wmH yL_detector cL_detector 6 (some .int) [(0, 12, 15, 24), (0, 12, 19, 13)]) B.pre
  have hts : ∀ w ∈ Wall, w.before _ s = true := fun w hw => hts0 w (List.mem_cons_of_mem _ hw)
  have hown : s.vm.findClass RL = some m.cls := findClass_of_methodNamed B.named
  have hlocks := B.notSynchronized
  subst hsz
  have hD := hD0.self (sz := s.heap.size)
  generalize hAe : va_A (wL cI cZ cJ ad o f u) s.heap.size = A at hD hZ ⊢
  have hA : ∀ q : Nat, s.heap.size ≤ q → A q := fun q h => by rw [← hAe]; exact Or.inr h
  have hS : va_S A s.heap s.heap [] := va_S.rf
  have hT := vx_table (x := yL_detector) B (hts0 _ List.mem_cons_self)
  have hl := lv_entry ([.ref (ad 0), .int p0, .int p1, .int p2, .ref o]) (n := 6) (Nat.le_of_ble_eq_true rfl)
  rw [lg_entry_eq]
  generalize (lg_sl ([.ref (ad 0), .int p0, .int p1, .int p2, .ref o]) ++ List.replicate (6 - (lg_sl ([.ref (ad 0), .int p0, .int p1, .int p2, .ref o])).length) Slot.unset).toArray = ls at hl ⊢
  replace hl : lv_has ls 6 [(0, .ref (ad 0)), (1, .int p0), (2, .int p1), (3, .int p2), (4, .ref o)] := hl
  refine w_gen (fun Q hQ => ?_)
  refine lv_aload hx hb dL_detector_0 (lv_at hl 4 rfl) ?_
  refine lv_iconst (v := 0) hx hb dL_detector_2 (by decide) ?_
  refine lv_aload_n hx hb dL_detector_3 rfl (lv_at hl 0 rfl) ?_
  refine lv_iload_n hx hb dL_detector_4 rfl (lv_at hl 1 rfl) ?_
  refine lv_iload_n hx hb dL_detector_5 rfl (lv_at hl 2 rfl) ?_
  refine lv_iload_n hx hb dL_detector_6 rfl (lv_at hl 3 rfl) ?_
  refine cX_iVF (As := [.int p0, .int p1, .int p2]) (rest := [.int 0, .ref o]) (wr := [(o, .inl (cJ, 1, .inr (.inl f)))]) ⟨hx, hb, hml, hown, hts⟩ (kx_X9_detector l hl0 D cI cZ ad u p0 p1 p2 h) (cwV 3 hts (gwV mw_641 mw_642 mw_643 mw_48 mw_644) rfl rfl rfl (by decide +kernel) ⟨Nat.le_of_ble_eq_true rfl, Nat.le_of_ble_eq_true rfl⟩) (hK.sub [0, 1] rfl) hP hD hS hA hZ [1, 2, 3, 4, 5, 6, 7, 8, 9, 10, 11, 12, 13, 14, 15, 16, 17, 18, 19, 20, 21, 22, 23, 24, 25, 26, 27, 28, 29, 30, 31, 32, 33, 34, 35] [0] rfl rfl (by decide) rfl (by decide) (by decide) (ci := 9) (q0 := 0) rfl rfl rfl hl.1 rfl (Nat.le_of_ble_eq_true rfl) dL_detector_7 ⟨Nat.le_of_ble_eq_true rfl, Nat.le_of_ble_eq_true rfl⟩ (fun ce q9 H locs hP hD hS h1 h2 h3 => ?_)
  replace hP : va_P D vwCl (wL cI cZ cJ ad o f w') H := hP
  replace hD : va_D A (wL cI cZ cJ ad o f w') := hD
  refine vx_catch (name := "java/lang/IllegalArgumentException") hown [⟨0, 12, 15, 24⟩] ⟨0, 12, 19, 13⟩ [] hT (List.forall_mem_cons.mpr ⟨Or.inr ⟨by decide, "java/lang/IndexOutOfBoundsException", hts _ mw_587, hZ.2.2.2.2.2.2.2.2.2.2 ("java/lang/IllegalArgumentException", "java/lang/IndexOutOfBoundsException") (by decide +kernel)⟩, (fun _ h => absurd h List.not_mem_nil)⟩) (by decide) (by decide) (hts _ mw_386) (va_Nw.use rfl (hZ.2.2.2.2.2.2.2.2.2.1 "java/lang/IllegalArgumentException" (by decide +kernel))) h1 h2 h3 ?_
  refine lv_astore (lv' := [(5, .ref q9), (0, .ref (ad 0)), (1, .int p0), (2, .int p1), (3, .int p2), (4, .ref o)]) hx hb dL_detector_19 hl (by decide) rfl (fun ls hl => ?_)
  refine lv_iconst (v := 2) hx hb dL_detector_21 (by decide) ?_
  exact cc_retC hx hb hr rfl hQ hK hP hD hS rfl dL_detector_22 hlocks

def rL_weather : Room := { frames := 2, cells := 0, slots := 0, locals := 44 }
def rx_L_weather : Room := { frames := 8, cells := 1, slots := 6, locals := 132 }
set_option maxHeartbeats 4000000 in
set_option maxRecDepth 100000 in
theorem k_L_weather (l : Launch) (D : va_G) (cI cZ cJ : ClassId) (ad : Nat → Nat) (o : Nat) (f : Nat → Int64) (u : GS) (p0 : Int32) {r : Int32} {w' : GS} (h : g_X9_weather u p0 = some (.inl r, w')) : MJ l yL_weather (wmH yL_weather cL_weather 4 (some .int) [(0, 9, 12, 13)]) rL_weather D [(cI, .int), (cZ, .boolean), (cJ, .long)] (wL cI cZ cJ ad o f u) (wL cI cZ cJ ad o (vp_updL f (0 : Int32).toNatClampNeg r.toInt64) w') [.ref (ad 0), .int p0, .ref o] 0 0 0 := by
  intro sz
  refine va_MetW (cc := cL_weather) (maxL := 4) (ret := some .int) (hh := [(0, 9, 12, 13)]) (by decide) rfl ?_
  intro p e s m args below meth c s₁ B hml hv
  obtain ⟨rfl, hsz, hP, hK, hD0, hZ⟩ := hv
  have hx := B.exec
  have hb := B.bytes
  have hr := B.returns
  have hts0 := atoms_spec (ws := wmH yL_weather cL_weather 4 (some .int) [(0, 9, 12, 13)]) B.pre
  have hts : ∀ w ∈ Wall, w.before _ s = true := fun w hw => hts0 w (List.mem_cons_of_mem _ hw)
  have hown : s.vm.findClass RL = some m.cls := findClass_of_methodNamed B.named
  have hlocks := B.notSynchronized
  subst hsz
  have hD := hD0.self (sz := s.heap.size)
  generalize hAe : va_A (wL cI cZ cJ ad o f u) s.heap.size = A at hD hZ ⊢
  have hA : ∀ q : Nat, s.heap.size ≤ q → A q := fun q h => by rw [← hAe]; exact Or.inr h
  have hS : va_S A s.heap s.heap [] := va_S.rf
  have hl := lv_entry ([.ref (ad 0), .int p0, .ref o]) (n := 4) (Nat.le_of_ble_eq_true rfl)
  rw [lg_entry_eq]
  generalize (lg_sl ([.ref (ad 0), .int p0, .ref o]) ++ List.replicate (4 - (lg_sl ([.ref (ad 0), .int p0, .ref o])).length) Slot.unset).toArray = ls at hl ⊢
  replace hl : lv_has ls 4 [(0, .ref (ad 0)), (1, .int p0), (2, .ref o)] := hl
  refine w_gen (fun Q hQ => ?_)
  refine lv_aload_n hx hb dL_weather_0 rfl (lv_at hl 2 rfl) ?_
  refine lv_iconst (v := 0) hx hb dL_weather_1 (by decide) ?_
  refine lv_aload_n hx hb dL_weather_2 rfl (lv_at hl 0 rfl) ?_
  refine lv_iload_n hx hb dL_weather_3 rfl (lv_at hl 1 rfl) ?_
  refine cc_iVF (As := [.int p0]) (rest := [.int 0, .ref o]) (wr := [(o, .inl (cJ, 1, .inr (.inl f)))]) ⟨hx, hb, hml, hown, hts⟩ (k_X9_weather l D cI cZ ad u p0 h) (cwV 1 hts (gwV mw_648 mw_649 mw_650 mw_48 mw_651) rfl rfl rfl (by decide +kernel) ⟨Nat.le_of_ble_eq_true rfl, Nat.le_of_ble_eq_true rfl⟩) (hK.sub [0, 1] rfl) hP hD hS hA hZ [1, 2, 3, 4, 5, 6, 7, 8, 9, 10, 11, 12, 13, 14, 15, 16, 17, 18, 19, 20, 21, 22, 23, 24, 25, 26, 27, 28, 29, 30, 31, 32, 33, 34, 35] [0] rfl rfl (by decide) rfl (by decide) (by decide) (ci := 9) (q0 := 0) rfl rfl rfl hl.1 rfl (Nat.le_of_ble_eq_true rfl) dL_weather_4 ⟨Nat.zero_le _, Nat.zero_le _⟩ (fun H locs hP hD hS => ?_)
  replace hP : va_P D vwCl (wL cI cZ cJ ad o f w') H := hP
  replace hD : va_D A (wL cI cZ cJ ad o f w') := hD
  refine lv_i2l (v := r.toInt64) hx hb dL_weather_7 rfl ?_
  refine va_last (D := D) hx hb hK hP hD hS 0 2 rfl rfl (by unfold vp_in; decide) dL_weather_8 (fun H locs hP hD hS => ?_)
  replace hP : va_P D vwCl (wL cI cZ cJ ad o (vp_updL f (0 : Int32).toNatClampNeg r.toInt64) w') H := hP
  replace hD : va_D A (wL cI cZ cJ ad o (vp_updL f (0 : Int32).toNatClampNeg r.toInt64) w') := hD
  refine lv_goto (tgt := 15) hx hb dL_weather_9 (by decide) ?_
  refine lv_iconst (v := 0) hx hb dL_weather_15 (by decide) ?_
  exact cc_retC hx hb hr rfl hQ hK hP hD hS rfl dL_weather_16 hlocks
set_option maxHeartbeats 4000000 in
set_option maxRecDepth 100000 in
theorem kx1_L_weather (l : Launch) (hl0 : l.stackTraces = false) (D : va_G) (cI cZ cJ : ClassId) (ad : Nat → Nat) (o : Nat) (f : Nat → Int64) (u : GS) (p0 : Int32) {w' : GS} (h : g_X9_weather u p0 = some (.inr "java/lang/IllegalArgumentException", w')) : MJ l yL_weather (wmH yL_weather cL_weather 4 (some .int) [(0, 9, 12, 13)]) rx_L_weather D [(cI, .int), (cZ, .boolean), (cJ, .long)] (wL cI cZ cJ ad o f u) (wL cI cZ cJ ad o f w') [.ref (ad 0), .int p0, .ref o] 1 1 6 := by
  intro sz
  refine va_MetW (cc := cL_weather) (maxL := 4) (ret := some .int) (hh := [(0, 9, 12, 13)]) (by decide) rfl ?_
  intro p e s m args below meth c s₁ B hml hv
  obtain ⟨rfl, hsz, hP, hK, hD0, hZ⟩ := hv
  have hx := B.exec
  have hb := B.bytes
  have hr := B.returns
  have hts0 := atoms_spec (ws := wmH yL_weather cL_weather 4 (some .int) [(0, 9, 12, 13)]) B.pre
  have hts : ∀ w ∈ Wall, w.before _ s = true := fun w hw => hts0 w (List.mem_cons_of_mem _ hw)
  have hown : s.vm.findClass RL = some m.cls := findClass_of_methodNamed B.named
  have hlocks := B.notSynchronized
  subst hsz
  have hD := hD0.self (sz := s.heap.size)
  generalize hAe : va_A (wL cI cZ cJ ad o f u) s.heap.size = A at hD hZ ⊢
  have hA : ∀ q : Nat, s.heap.size ≤ q → A q := fun q h => by rw [← hAe]; exact Or.inr h
  have hS : va_S A s.heap s.heap [] := va_S.rf
  have hT := vx_table (x := yL_weather) B (hts0 _ List.mem_cons_self)
  have hl := lv_entry ([.ref (ad 0), .int p0, .ref o]) (n := 4) (Nat.le_of_ble_eq_true rfl)
  rw [lg_entry_eq]
  generalize (lg_sl ([.ref (ad 0), .int p0, .ref o]) ++ List.replicate (4 - (lg_sl ([.ref (ad 0), .int p0, .ref o])).length) Slot.unset).toArray = ls at hl ⊢
  replace hl : lv_has ls 4 [(0, .ref (ad 0)), (1, .int p0), (2, .ref o)] := hl
  refine w_gen (fun Q hQ => ?_)
  refine lv_aload_n hx hb dL_weather_0 rfl (lv_at hl 2 rfl) ?_
  refine lv_iconst (v := 0) hx hb dL_weather_1 (by decide) ?_
  refine lv_aload_n hx hb dL_weather_2 rfl (lv_at hl 0 rfl) ?_
  refine lv_iload_n hx hb dL_weather_3 rfl (lv_at hl 1 rfl) ?_
  refine cX_iVF (As := [.int p0]) (rest := [.int 0, .ref o]) (wr := [(o, .inl (cJ, 1, .inr (.inl f)))]) ⟨hx, hb, hml, hown, hts⟩ (kx_X9_weather l hl0 D cI cZ ad u p0 h) (cwV 1 hts (gwV mw_648 mw_649 mw_650 mw_48 mw_651) rfl rfl rfl (by decide +kernel) ⟨Nat.le_of_ble_eq_true rfl, Nat.le_of_ble_eq_true rfl⟩) (hK.sub [0, 1] rfl) hP hD hS hA hZ [1, 2, 3, 4, 5, 6, 7, 8, 9, 10, 11, 12, 13, 14, 15, 16, 17, 18, 19, 20, 21, 22, 23, 24, 25, 26, 27, 28, 29, 30, 31, 32, 33, 34, 35] [0] rfl rfl (by decide) rfl (by decide) (by decide) (ci := 9) (q0 := 0) rfl rfl rfl hl.1 rfl (Nat.le_of_ble_eq_true rfl) dL_weather_4 ⟨Nat.le_of_ble_eq_true rfl, Nat.le_of_ble_eq_true rfl⟩ (fun ce q9 H locs hP hD hS h1 h2 h3 => ?_)
  replace hP : va_P D vwCl (wL cI cZ cJ ad o f w') H := hP
  replace hD : va_D A (wL cI cZ cJ ad o f w') := hD
  refine vx_catch (name := "java/lang/IllegalArgumentException") hown [] ⟨0, 9, 12, 13⟩ [] hT (fun _ h => absurd h List.not_mem_nil) (by decide) (by decide) (hts _ mw_386) (va_Nw.use rfl (hZ.2.2.2.2.2.2.2.2.2.1 "java/lang/IllegalArgumentException" (by decide +kernel))) h1 h2 h3 ?_
  refine lv_astore_n (lv' := [(3, .ref q9), (0, .ref (ad 0)), (1, .int p0), (2, .ref o)]) hx hb dL_weather_12 rfl hl (by decide) rfl (fun ls hl => ?_)
  refine lv_iconst (v := 1) hx hb dL_weather_13 (by decide) ?_
  exact cc_retC hx hb hr rfl hQ hK hP hD hS rfl dL_weather_14 hlocks

def rL_limit : Room := { frames := 3, cells := 0, slots := 0, locals := 65 }
def rx_L_limit : Room := { frames := 9, cells := 1, slots := 6, locals := 153 }
set_option maxHeartbeats 4000000 in
set_option maxRecDepth 100000 in
theorem k_L_limit (l : Launch) (D : va_G) (cI cZ cJ : ClassId) (ad : Nat → Nat) (o : Nat) (f : Nat → Int64) (u : GS) (p0 : Int32) (p1 : Int32) {r : Int32} {w' : GS} (h : g_X9_limit u p0 p1 = some (.inl r, w')) : MJ l yL_limit (wmH yL_limit cL_limit 5 (some .int) [(0, 10, 13, 24), (0, 10, 17, 13)]) rL_limit D [(cI, .int), (cZ, .boolean), (cJ, .long)] (wL cI cZ cJ ad o f u) (wL cI cZ cJ ad o (vp_updL f (0 : Int32).toNatClampNeg r.toInt64) w') [.ref (ad 0), .int p0, .int p1, .ref o] 0 0 0 := by
  intro sz
  refine va_MetW (cc := cL_limit) (maxL := 5) (ret := some .int) (hh := [(0, 10, 13, 24), (0, 10, 17, 13)]) (by decide) rfl ?_
  intro p e s m args below meth c s₁ B hml hv
  obtain ⟨rfl, hsz, hP, hK, hD0, hZ⟩ := hv
  have hx := B.exec
  have hb := B.bytes
  have hr := B.returns
  have hts0 := atoms_spec (ws := wmH yL_limit cL_limit 5 (some .int) [(0, 10, 13, 24), (0, 10, 17, 13)]) B.pre
  have hts : ∀ w ∈ Wall, w.before _ s = true := fun w hw => hts0 w (List.mem_cons_of_mem _ hw)
  have hown : s.vm.findClass RL = some m.cls := findClass_of_methodNamed B.named
  have hlocks := B.notSynchronized
  subst hsz
  have hD := hD0.self (sz := s.heap.size)
  generalize hAe : va_A (wL cI cZ cJ ad o f u) s.heap.size = A at hD hZ ⊢
  have hA : ∀ q : Nat, s.heap.size ≤ q → A q := fun q h => by rw [← hAe]; exact Or.inr h
  have hS : va_S A s.heap s.heap [] := va_S.rf
  have hl := lv_entry ([.ref (ad 0), .int p0, .int p1, .ref o]) (n := 5) (Nat.le_of_ble_eq_true rfl)
  rw [lg_entry_eq]
  generalize (lg_sl ([.ref (ad 0), .int p0, .int p1, .ref o]) ++ List.replicate (5 - (lg_sl ([.ref (ad 0), .int p0, .int p1, .ref o])).length) Slot.unset).toArray = ls at hl ⊢
  replace hl : lv_has ls 5 [(0, .ref (ad 0)), (1, .int p0), (2, .int p1), (3, .ref o)] := hl
  refine w_gen (fun Q hQ => ?_)
  refine lv_aload_n hx hb dL_limit_0 rfl (lv_at hl 3 rfl) ?_
  refine lv_iconst (v := 0) hx hb dL_limit_1 (by decide) ?_
  refine lv_aload_n hx hb dL_limit_2 rfl (lv_at hl 0 rfl) ?_
  refine lv_iload_n hx hb dL_limit_3 rfl (lv_at hl 1 rfl) ?_
  refine lv_iload_n hx hb dL_limit_4 rfl (lv_at hl 2 rfl) ?_
  refine cc_iVF (As := [.int p0, .int p1]) (rest := [.int 0, .ref o]) (wr := [(o, .inl (cJ, 1, .inr (.inl f)))]) ⟨hx, hb, hml, hown, hts⟩ (k_X9_limit l D cI cZ ad u p0 p1 h) (cwV 2 hts (gwV mw_655 mw_656 mw_657 mw_48 mw_658) rfl rfl rfl (by decide +kernel) ⟨Nat.le_of_ble_eq_true rfl, Nat.le_of_ble_eq_true rfl⟩) (hK.sub [0, 1] rfl) hP hD hS hA hZ [1, 2, 3, 4, 5, 6, 7, 8, 9, 10, 11, 12, 13, 14, 15, 16, 17, 18, 19, 20, 21, 22, 23, 24, 25, 26, 27, 28, 29, 30, 31, 32, 33, 34, 35] [0] rfl rfl (by decide) rfl (by decide) (by decide) (ci := 9) (q0 := 0) rfl rfl rfl hl.1 rfl (Nat.le_of_ble_eq_true rfl) dL_limit_5 ⟨Nat.zero_le _, Nat.zero_le _⟩ (fun H locs hP hD hS => ?_)
  replace hP : va_P D vwCl (wL cI cZ cJ ad o f w') H := hP
  replace hD : va_D A (wL cI cZ cJ ad o f w') := hD
  refine lv_i2l (v := r.toInt64) hx hb dL_limit_8 rfl ?_
  refine va_last (D := D) hx hb hK hP hD hS 0 2 rfl rfl (by unfold vp_in; decide) dL_limit_9 (fun H locs hP hD hS => ?_)
  replace hP : va_P D vwCl (wL cI cZ cJ ad o (vp_updL f (0 : Int32).toNatClampNeg r.toInt64) w') H := hP
  replace hD : va_D A (wL cI cZ cJ ad o (vp_updL f (0 : Int32).toNatClampNeg r.toInt64) w') := hD
  refine lv_goto (tgt := 21) hx hb dL_limit_10 (by decide) ?_
  refine lv_iconst (v := 0) hx hb dL_limit_21 (by decide) ?_
  exact cc_retC hx hb hr rfl hQ hK hP hD hS rfl dL_limit_22 hlocks
set_option maxHeartbeats 4000000 in
set_option maxRecDepth 100000 in
theorem kx1_L_limit (l : Launch) (hl0 : l.stackTraces = false) (D : va_G) (cI cZ cJ : ClassId) (ad : Nat → Nat) (o : Nat) (f : Nat → Int64) (u : GS) (p0 : Int32) (p1 : Int32) {w' : GS} (h : g_X9_limit u p0 p1 = some (.inr "java/lang/IndexOutOfBoundsException", w')) : MJ l yL_limit (wmH yL_limit cL_limit 5 (some .int) [(0, 10, 13, 24), (0, 10, 17, 13)]) rx_L_limit D [(cI, .int), (cZ, .boolean), (cJ, .long)] (wL cI cZ cJ ad o f u) (wL cI cZ cJ ad o f w') [.ref (ad 0), .int p0, .int p1, .ref o] 1 1 6 := by
  intro sz
  refine va_MetW (cc := cL_limit) (maxL := 5) (ret := some .int) (hh := [(0, 10, 13, 24), (0, 10, 17, 13)]) (by decide) rfl ?_
  intro p e s m args below meth c s₁ B hml hv
  obtain ⟨rfl, hsz, hP, hK, hD0, hZ⟩ := hv
  have hx := B.exec
  have hb := B.bytes
  have hr := B.returns
  have hts0 := atoms_spec (ws := wmH yL_limit cL_limit 5 (some .int) [(0, 10, 13, 24), (0, 10, 17, 13)]) B.pre
  have hts : ∀ w ∈ Wall, w.before _ s = true := fun w hw => hts0 w (List.mem_cons_of_mem _ hw)
  have hown : s.vm.findClass RL = some m.cls := findClass_of_methodNamed B.named
  have hlocks := B.notSynchronized
  subst hsz
  have hD := hD0.self (sz := s.heap.size)
  generalize hAe : va_A (wL cI cZ cJ ad o f u) s.heap.size = A at hD hZ ⊢
  have hA : ∀ q : Nat, s.heap.size ≤ q → A q := fun q h => by rw [← hAe]; exact Or.inr h
  have hS : va_S A s.heap s.heap [] := va_S.rf
  have hT := vx_table (x := yL_limit) B (hts0 _ List.mem_cons_self)
  have hl := lv_entry ([.ref (ad 0), .int p0, .int p1, .ref o]) (n := 5) (Nat.le_of_ble_eq_true rfl)
  rw [lg_entry_eq]
  generalize (lg_sl ([.ref (ad 0), .int p0, .int p1, .ref o]) ++ List.replicate (5 - (lg_sl ([.ref (ad 0), .int p0, .int p1, .ref o])).length) Slot.unset).toArray = ls at hl ⊢
  replace hl : lv_has ls 5 [(0, .ref (ad 0)), (1, .int p0), (2, .int p1), (3, .ref o)] := hl
  refine w_gen (fun Q hQ => ?_)
  refine lv_aload_n hx hb dL_limit_0 rfl (lv_at hl 3 rfl) ?_
  refine lv_iconst (v := 0) hx hb dL_limit_1 (by decide) ?_
  refine lv_aload_n hx hb dL_limit_2 rfl (lv_at hl 0 rfl) ?_
  refine lv_iload_n hx hb dL_limit_3 rfl (lv_at hl 1 rfl) ?_
  refine lv_iload_n hx hb dL_limit_4 rfl (lv_at hl 2 rfl) ?_
  refine cX_iVF (As := [.int p0, .int p1]) (rest := [.int 0, .ref o]) (wr := [(o, .inl (cJ, 1, .inr (.inl f)))]) ⟨hx, hb, hml, hown, hts⟩ (kx_X9_limit l hl0 D cI cZ ad u p0 p1 h) (cwV 2 hts (gwV mw_655 mw_656 mw_657 mw_48 mw_658) rfl rfl rfl (by decide +kernel) ⟨Nat.le_of_ble_eq_true rfl, Nat.le_of_ble_eq_true rfl⟩) (hK.sub [0, 1] rfl) hP hD hS hA hZ [1, 2, 3, 4, 5, 6, 7, 8, 9, 10, 11, 12, 13, 14, 15, 16, 17, 18, 19, 20, 21, 22, 23, 24, 25, 26, 27, 28, 29, 30, 31, 32, 33, 34, 35] [0] rfl rfl (by decide) rfl (by decide) (by decide) (ci := 9) (q0 := 0) rfl rfl rfl hl.1 rfl (Nat.le_of_ble_eq_true rfl) dL_limit_5 ⟨Nat.le_of_ble_eq_true rfl, Nat.le_of_ble_eq_true rfl⟩ (fun ce q9 H locs hP hD hS h1 h2 h3 => ?_)
  replace hP : va_P D vwCl (wL cI cZ cJ ad o f w') H := hP
  replace hD : va_D A (wL cI cZ cJ ad o f w') := hD
  refine vx_catch (name := "java/lang/IndexOutOfBoundsException") hown [] ⟨0, 10, 13, 24⟩ [⟨0, 10, 17, 13⟩] hT (fun _ h => absurd h List.not_mem_nil) (by decide) (by decide) (hts _ mw_587) (va_Nw.use rfl (hZ.2.2.2.2.2.2.2.2.2.1 "java/lang/IndexOutOfBoundsException" (by decide +kernel))) h1 h2 h3 ?_
  refine lv_astore (lv' := [(4, .ref q9), (0, .ref (ad 0)), (1, .int p0), (2, .int p1), (3, .ref o)]) hx hb dL_limit_13 hl (by decide) rfl (fun ls hl => ?_)
  refine lv_iconst (v := 1) hx hb dL_limit_15 (by decide) ?_
  exact cc_retC hx hb hr rfl hQ hK hP hD hS rfl dL_limit_16 hlocks
set_option maxHeartbeats 4000000 in
set_option maxRecDepth 100000 in
theorem kx2_L_limit (l : Launch) (hl0 : l.stackTraces = false) (D : va_G) (cI cZ cJ : ClassId) (ad : Nat → Nat) (o : Nat) (f : Nat → Int64) (u : GS) (p0 : Int32) (p1 : Int32) {w' : GS} (h : g_X9_limit u p0 p1 = some (.inr "java/lang/IllegalArgumentException", w')) : MJ l yL_limit (wmH yL_limit cL_limit 5 (some .int) [(0, 10, 13, 24), (0, 10, 17, 13)]) rx_L_limit D [(cI, .int), (cZ, .boolean), (cJ, .long)] (wL cI cZ cJ ad o f u) (wL cI cZ cJ ad o f w') [.ref (ad 0), .int p0, .int p1, .ref o] 2 1 6 := by
  intro sz
  refine va_MetW (cc := cL_limit) (maxL := 5) (ret := some .int) (hh := [(0, 10, 13, 24), (0, 10, 17, 13)]) (by decide) rfl ?_
  intro p e s m args below meth c s₁ B hml hv
  obtain ⟨rfl, hsz, hP, hK, hD0, hZ⟩ := hv
  have hx := B.exec
  have hb := B.bytes
  have hr := B.returns
  have hts0 := atoms_spec (ws := wmH yL_limit cL_limit 5 (some .int) [(0, 10, 13, 24), (0, 10, 17, 13)]) B.pre
  have hts : ∀ w ∈ Wall, w.before _ s = true := fun w hw => hts0 w (List.mem_cons_of_mem _ hw)
  have hown : s.vm.findClass RL = some m.cls := findClass_of_methodNamed B.named
  have hlocks := B.notSynchronized
  subst hsz
  have hD := hD0.self (sz := s.heap.size)
  generalize hAe : va_A (wL cI cZ cJ ad o f u) s.heap.size = A at hD hZ ⊢
  have hA : ∀ q : Nat, s.heap.size ≤ q → A q := fun q h => by rw [← hAe]; exact Or.inr h
  have hS : va_S A s.heap s.heap [] := va_S.rf
  have hT := vx_table (x := yL_limit) B (hts0 _ List.mem_cons_self)
  have hl := lv_entry ([.ref (ad 0), .int p0, .int p1, .ref o]) (n := 5) (Nat.le_of_ble_eq_true rfl)
  rw [lg_entry_eq]
  generalize (lg_sl ([.ref (ad 0), .int p0, .int p1, .ref o]) ++ List.replicate (5 - (lg_sl ([.ref (ad 0), .int p0, .int p1, .ref o])).length) Slot.unset).toArray = ls at hl ⊢
  replace hl : lv_has ls 5 [(0, .ref (ad 0)), (1, .int p0), (2, .int p1), (3, .ref o)] := hl
  refine w_gen (fun Q hQ => ?_)
  refine lv_aload_n hx hb dL_limit_0 rfl (lv_at hl 3 rfl) ?_
  refine lv_iconst (v := 0) hx hb dL_limit_1 (by decide) ?_
  refine lv_aload_n hx hb dL_limit_2 rfl (lv_at hl 0 rfl) ?_
  refine lv_iload_n hx hb dL_limit_3 rfl (lv_at hl 1 rfl) ?_
  refine lv_iload_n hx hb dL_limit_4 rfl (lv_at hl 2 rfl) ?_
  refine cX_iVF (As := [.int p0, .int p1]) (rest := [.int 0, .ref o]) (wr := [(o, .inl (cJ, 1, .inr (.inl f)))]) ⟨hx, hb, hml, hown, hts⟩ (kx_X9_limit l hl0 D cI cZ ad u p0 p1 h) (cwV 2 hts (gwV mw_655 mw_656 mw_657 mw_48 mw_658) rfl rfl rfl (by decide +kernel) ⟨Nat.le_of_ble_eq_true rfl, Nat.le_of_ble_eq_true rfl⟩) (hK.sub [0, 1] rfl) hP hD hS hA hZ [1, 2, 3, 4, 5, 6, 7, 8, 9, 10, 11, 12, 13, 14, 15, 16, 17, 18, 19, 20, 21, 22, 23, 24, 25, 26, 27, 28, 29, 30, 31, 32, 33, 34, 35] [0] rfl rfl (by decide) rfl (by decide) (by decide) (ci := 9) (q0 := 0) rfl rfl rfl hl.1 rfl (Nat.le_of_ble_eq_true rfl) dL_limit_5 ⟨Nat.le_of_ble_eq_true rfl, Nat.le_of_ble_eq_true rfl⟩ (fun ce q9 H locs hP hD hS h1 h2 h3 => ?_)
  replace hP : va_P D vwCl (wL cI cZ cJ ad o f w') H := hP
  replace hD : va_D A (wL cI cZ cJ ad o f w') := hD
  refine vx_catch (name := "java/lang/IllegalArgumentException") hown [⟨0, 10, 13, 24⟩] ⟨0, 10, 17, 13⟩ [] hT (List.forall_mem_cons.mpr ⟨Or.inr ⟨by decide, "java/lang/IndexOutOfBoundsException", hts _ mw_587, hZ.2.2.2.2.2.2.2.2.2.2 ("java/lang/IllegalArgumentException", "java/lang/IndexOutOfBoundsException") (by decide +kernel)⟩, (fun _ h => absurd h List.not_mem_nil)⟩) (by decide) (by decide) (hts _ mw_386) (va_Nw.use rfl (hZ.2.2.2.2.2.2.2.2.2.1 "java/lang/IllegalArgumentException" (by decide +kernel))) h1 h2 h3 ?_
  refine lv_astore (lv' := [(4, .ref q9), (0, .ref (ad 0)), (1, .int p0), (2, .int p1), (3, .ref o)]) hx hb dL_limit_17 hl (by decide) rfl (fun ls hl => ?_)
  refine lv_iconst (v := 2) hx hb dL_limit_19 (by decide) ?_
  exact cc_retC hx hb hr rfl hQ hK hP hD hS rfl dL_limit_20 hlocks

def rL_order : Room := { frames := 4, cells := 0, slots := 0, locals := 88 }
def rx_L_order : Room := { frames := 10, cells := 1, slots := 6, locals := 176 }
set_option maxHeartbeats 4000000 in
set_option maxRecDepth 100000 in
theorem k_L_order (l : Launch) (D : va_G) (cI cZ cJ : ClassId) (ad : Nat → Nat) (o : Nat) (f : Nat → Int64) (u : GS) (p0 : Int32) (p1 : Int32) (p2 : Int32) {r : Int32} {w' : GS} (h : g_X9_order u p0 p1 p2 = some (.inl r, w')) : MJ l yL_order (wmH yL_order cL_order 6 (some .int) [(0, 12, 15, 24), (0, 12, 19, 13), (0, 12, 23, 18)]) rL_order D [(cI, .int), (cZ, .boolean), (cJ, .long)] (wL cI cZ cJ ad o f u) (wL cI cZ cJ ad o (vp_updL f (0 : Int32).toNatClampNeg r.toInt64) w') [.ref (ad 0), .int p0, .int p1, .int p2, .ref o] 0 0 0 := by
  intro sz
  refine va_MetW (cc := cL_order) (maxL := 6) (ret := some .int) (hh := [(0, 12, 15, 24), (0, 12, 19, 13), (0, 12, 23, 18)]) (by decide) rfl ?_
  intro p e s m args below meth c s₁ B hml hv
  obtain ⟨rfl, hsz, hP, hK, hD0, hZ⟩ := hv
  have hx := B.exec
  have hb := B.bytes
  have hr := B.returns
  have hts0 := atoms_spec (ws := wmH yL_order cL_order 6 (some .int) [(0, 12, 15, 24), (0, 12, 19, 13), (0, 12, 23, 18)]) B.pre
  have hts : ∀ w ∈ Wall, w.before _ s = true := fun w hw => hts0 w (List.mem_cons_of_mem _ hw)
  have hown : s.vm.findClass RL = some m.cls := findClass_of_methodNamed B.named
  have hlocks := B.notSynchronized
  subst hsz
  have hD := hD0.self (sz := s.heap.size)
  generalize hAe : va_A (wL cI cZ cJ ad o f u) s.heap.size = A at hD hZ ⊢
  have hA : ∀ q : Nat, s.heap.size ≤ q → A q := fun q h => by rw [← hAe]; exact Or.inr h
  have hS : va_S A s.heap s.heap [] := va_S.rf
  have hl := lv_entry ([.ref (ad 0), .int p0, .int p1, .int p2, .ref o]) (n := 6) (Nat.le_of_ble_eq_true rfl)
  rw [lg_entry_eq]
  generalize (lg_sl ([.ref (ad 0), .int p0, .int p1, .int p2, .ref o]) ++ List.replicate (6 - (lg_sl ([.ref (ad 0), .int p0, .int p1, .int p2, .ref o])).length) Slot.unset).toArray = ls at hl ⊢
  replace hl : lv_has ls 6 [(0, .ref (ad 0)), (1, .int p0), (2, .int p1), (3, .int p2), (4, .ref o)] := hl
  refine w_gen (fun Q hQ => ?_)
  refine lv_aload hx hb dL_order_0 (lv_at hl 4 rfl) ?_
  refine lv_iconst (v := 0) hx hb dL_order_2 (by decide) ?_
  refine lv_aload_n hx hb dL_order_3 rfl (lv_at hl 0 rfl) ?_
  refine lv_iload_n hx hb dL_order_4 rfl (lv_at hl 1 rfl) ?_
  refine lv_iload_n hx hb dL_order_5 rfl (lv_at hl 2 rfl) ?_
  refine lv_iload_n hx hb dL_order_6 rfl (lv_at hl 3 rfl) ?_
  refine cc_iVF (As := [.int p0, .int p1, .int p2]) (rest := [.int 0, .ref o]) (wr := [(o, .inl (cJ, 1, .inr (.inl f)))]) ⟨hx, hb, hml, hown, hts⟩ (k_X9_order l D cI cZ ad u p0 p1 p2 h) (cwV 3 hts (gwV mw_665 mw_666 mw_667 mw_48 mw_668) rfl rfl rfl (by decide +kernel) ⟨Nat.le_of_ble_eq_true rfl, Nat.le_of_ble_eq_true rfl⟩) (hK.sub [0, 1] rfl) hP hD hS hA hZ [1, 2, 3, 4, 5, 6, 7, 8, 9, 10, 11, 12, 13, 14, 15, 16, 17, 18, 19, 20, 21, 22, 23, 24, 25, 26, 27, 28, 29, 30, 31, 32, 33, 34, 35] [0] rfl rfl (by decide) rfl (by decide) (by decide) (ci := 9) (q0 := 0) rfl rfl rfl hl.1 rfl (Nat.le_of_ble_eq_true rfl) dL_order_7 ⟨Nat.zero_le _, Nat.zero_le _⟩ (fun H locs hP hD hS => ?_)
  replace hP : va_P D vwCl (wL cI cZ cJ ad o f w') H := hP
  replace hD : va_D A (wL cI cZ cJ ad o f w') := hD
  refine lv_i2l (v := r.toInt64) hx hb dL_order_10 rfl ?_
  refine va_last (D := D) hx hb hK hP hD hS 0 2 rfl rfl (by unfold vp_in; decide) dL_order_11 (fun H locs hP hD hS => ?_)
  replace hP : va_P D vwCl (wL cI cZ cJ ad o (vp_updL f (0 : Int32).toNatClampNeg r.toInt64) w') H := hP
  replace hD : va_D A (wL cI cZ cJ ad o (vp_updL f (0 : Int32).toNatClampNeg r.toInt64) w') := hD
  refine lv_goto (tgt := 27) hx hb dL_order_12 (by decide) ?_
  refine lv_iconst (v := 0) hx hb dL_order_27 (by decide) ?_
  exact cc_retC hx hb hr rfl hQ hK hP hD hS rfl dL_order_28 hlocks
set_option maxHeartbeats 4000000 in
set_option maxRecDepth 100000 in
theorem kx1_L_order (l : Launch) (hl0 : l.stackTraces = false) (D : va_G) (cI cZ cJ : ClassId) (ad : Nat → Nat) (o : Nat) (f : Nat → Int64) (u : GS) (p0 : Int32) (p1 : Int32) (p2 : Int32) {w' : GS} (h : g_X9_order u p0 p1 p2 = some (.inr "java/lang/IndexOutOfBoundsException", w')) : MJ l yL_order (wmH yL_order cL_order 6 (some .int) [(0, 12, 15, 24), (0, 12, 19, 13), (0, 12, 23, 18)]) rx_L_order D [(cI, .int), (cZ, .boolean), (cJ, .long)] (wL cI cZ cJ ad o f u) (wL cI cZ cJ ad o f w') [.ref (ad 0), .int p0, .int p1, .int p2, .ref o] 1 1 6 := by
  intro sz
  refine va_MetW (cc := cL_order) (maxL := 6) (ret := some .int) (hh := [(0, 12, 15, 24), (0, 12, 19, 13), (0, 12, 23, 18)]) (by decide) rfl ?_
  intro p e s m args below meth c s₁ B hml hv
  obtain ⟨rfl, hsz, hP, hK, hD0, hZ⟩ := hv
  have hx := B.exec
  have hb := B.bytes
  have hr := B.returns
  have hts0 := atoms_spec (ws := wmH yL_order cL_order 6 (some .int) [(0, 12, 15, 24), (0, 12, 19, 13), (0, 12, 23, 18)]) B.pre
  have hts : ∀ w ∈ Wall, w.before _ s = true := fun w hw => hts0 w (List.mem_cons_of_mem _ hw)
  have hown : s.vm.findClass RL = some m.cls := findClass_of_methodNamed B.named
  have hlocks := B.notSynchronized
  subst hsz
  have hD := hD0.self (sz := s.heap.size)
  generalize hAe : va_A (wL cI cZ cJ ad o f u) s.heap.size = A at hD hZ ⊢
  have hA : ∀ q : Nat, s.heap.size ≤ q → A q := fun q h => by rw [← hAe]; exact Or.inr h
  have hS : va_S A s.heap s.heap [] := va_S.rf
  have hT := vx_table (x := yL_order) B (hts0 _ List.mem_cons_self)
  have hl := lv_entry ([.ref (ad 0), .int p0, .int p1, .int p2, .ref o]) (n := 6) (Nat.le_of_ble_eq_true rfl)
  rw [lg_entry_eq]
  generalize (lg_sl ([.ref (ad 0), .int p0, .int p1, .int p2, .ref o]) ++ List.replicate (6 - (lg_sl ([.ref (ad 0), .int p0, .int p1, .int p2, .ref o])).length) Slot.unset).toArray = ls at hl ⊢
  replace hl : lv_has ls 6 [(0, .ref (ad 0)), (1, .int p0), (2, .int p1), (3, .int p2), (4, .ref o)] := hl
  refine w_gen (fun Q hQ => ?_)
  refine lv_aload hx hb dL_order_0 (lv_at hl 4 rfl) ?_
  refine lv_iconst (v := 0) hx hb dL_order_2 (by decide) ?_
  refine lv_aload_n hx hb dL_order_3 rfl (lv_at hl 0 rfl) ?_
  refine lv_iload_n hx hb dL_order_4 rfl (lv_at hl 1 rfl) ?_
  refine lv_iload_n hx hb dL_order_5 rfl (lv_at hl 2 rfl) ?_
  refine lv_iload_n hx hb dL_order_6 rfl (lv_at hl 3 rfl) ?_
  refine cX_iVF (As := [.int p0, .int p1, .int p2]) (rest := [.int 0, .ref o]) (wr := [(o, .inl (cJ, 1, .inr (.inl f)))]) ⟨hx, hb, hml, hown, hts⟩ (kx_X9_order l hl0 D cI cZ ad u p0 p1 p2 h) (cwV 3 hts (gwV mw_665 mw_666 mw_667 mw_48 mw_668) rfl rfl rfl (by decide +kernel) ⟨Nat.le_of_ble_eq_true rfl, Nat.le_of_ble_eq_true rfl⟩) (hK.sub [0, 1] rfl) hP hD hS hA hZ [1, 2, 3, 4, 5, 6, 7, 8, 9, 10, 11, 12, 13, 14, 15, 16, 17, 18, 19, 20, 21, 22, 23, 24, 25, 26, 27, 28, 29, 30, 31, 32, 33, 34, 35] [0] rfl rfl (by decide) rfl (by decide) (by decide) (ci := 9) (q0 := 0) rfl rfl rfl hl.1 rfl (Nat.le_of_ble_eq_true rfl) dL_order_7 ⟨Nat.le_of_ble_eq_true rfl, Nat.le_of_ble_eq_true rfl⟩ (fun ce q9 H locs hP hD hS h1 h2 h3 => ?_)
  replace hP : va_P D vwCl (wL cI cZ cJ ad o f w') H := hP
  replace hD : va_D A (wL cI cZ cJ ad o f w') := hD
  refine vx_catch (name := "java/lang/IndexOutOfBoundsException") hown [] ⟨0, 12, 15, 24⟩ [⟨0, 12, 19, 13⟩, ⟨0, 12, 23, 18⟩] hT (fun _ h => absurd h List.not_mem_nil) (by decide) (by decide) (hts _ mw_587) (va_Nw.use rfl (hZ.2.2.2.2.2.2.2.2.2.1 "java/lang/IndexOutOfBoundsException" (by decide +kernel))) h1 h2 h3 ?_
  refine lv_astore (lv' := [(5, .ref q9), (0, .ref (ad 0)), (1, .int p0), (2, .int p1), (3, .int p2), (4, .ref o)]) hx hb dL_order_15 hl (by decide) rfl (fun ls hl => ?_)
  refine lv_iconst (v := 1) hx hb dL_order_17 (by decide) ?_
  exact cc_retC hx hb hr rfl hQ hK hP hD hS rfl dL_order_18 hlocks
set_option maxHeartbeats 4000000 in
set_option maxRecDepth 100000 in
theorem kx2_L_order (l : Launch) (hl0 : l.stackTraces = false) (D : va_G) (cI cZ cJ : ClassId) (ad : Nat → Nat) (o : Nat) (f : Nat → Int64) (u : GS) (p0 : Int32) (p1 : Int32) (p2 : Int32) {w' : GS} (h : g_X9_order u p0 p1 p2 = some (.inr "java/lang/IllegalArgumentException", w')) : MJ l yL_order (wmH yL_order cL_order 6 (some .int) [(0, 12, 15, 24), (0, 12, 19, 13), (0, 12, 23, 18)]) rx_L_order D [(cI, .int), (cZ, .boolean), (cJ, .long)] (wL cI cZ cJ ad o f u) (wL cI cZ cJ ad o f w') [.ref (ad 0), .int p0, .int p1, .int p2, .ref o] 2 1 6 := by
  intro sz
  refine va_MetW (cc := cL_order) (maxL := 6) (ret := some .int) (hh := [(0, 12, 15, 24), (0, 12, 19, 13), (0, 12, 23, 18)]) (by decide) rfl ?_
  intro p e s m args below meth c s₁ B hml hv
  obtain ⟨rfl, hsz, hP, hK, hD0, hZ⟩ := hv
  have hx := B.exec
  have hb := B.bytes
  have hr := B.returns
  have hts0 := atoms_spec (ws := wmH yL_order cL_order 6 (some .int) [(0, 12, 15, 24), (0, 12, 19, 13), (0, 12, 23, 18)]) B.pre
  have hts : ∀ w ∈ Wall, w.before _ s = true := fun w hw => hts0 w (List.mem_cons_of_mem _ hw)
  have hown : s.vm.findClass RL = some m.cls := findClass_of_methodNamed B.named
  have hlocks := B.notSynchronized
  subst hsz
  have hD := hD0.self (sz := s.heap.size)
  generalize hAe : va_A (wL cI cZ cJ ad o f u) s.heap.size = A at hD hZ ⊢
  have hA : ∀ q : Nat, s.heap.size ≤ q → A q := fun q h => by rw [← hAe]; exact Or.inr h
  have hS : va_S A s.heap s.heap [] := va_S.rf
  have hT := vx_table (x := yL_order) B (hts0 _ List.mem_cons_self)
  have hl := lv_entry ([.ref (ad 0), .int p0, .int p1, .int p2, .ref o]) (n := 6) (Nat.le_of_ble_eq_true rfl)
  rw [lg_entry_eq]
  generalize (lg_sl ([.ref (ad 0), .int p0, .int p1, .int p2, .ref o]) ++ List.replicate (6 - (lg_sl ([.ref (ad 0), .int p0, .int p1, .int p2, .ref o])).length) Slot.unset).toArray = ls at hl ⊢
  replace hl : lv_has ls 6 [(0, .ref (ad 0)), (1, .int p0), (2, .int p1), (3, .int p2), (4, .ref o)] := hl
  refine w_gen (fun Q hQ => ?_)
  refine lv_aload hx hb dL_order_0 (lv_at hl 4 rfl) ?_
  refine lv_iconst (v := 0) hx hb dL_order_2 (by decide) ?_
  refine lv_aload_n hx hb dL_order_3 rfl (lv_at hl 0 rfl) ?_
  refine lv_iload_n hx hb dL_order_4 rfl (lv_at hl 1 rfl) ?_
  refine lv_iload_n hx hb dL_order_5 rfl (lv_at hl 2 rfl) ?_
  refine lv_iload_n hx hb dL_order_6 rfl (lv_at hl 3 rfl) ?_
  refine cX_iVF (As := [.int p0, .int p1, .int p2]) (rest := [.int 0, .ref o]) (wr := [(o, .inl (cJ, 1, .inr (.inl f)))]) ⟨hx, hb, hml, hown, hts⟩ (kx_X9_order l hl0 D cI cZ ad u p0 p1 p2 h) (cwV 3 hts (gwV mw_665 mw_666 mw_667 mw_48 mw_668) rfl rfl rfl (by decide +kernel) ⟨Nat.le_of_ble_eq_true rfl, Nat.le_of_ble_eq_true rfl⟩) (hK.sub [0, 1] rfl) hP hD hS hA hZ [1, 2, 3, 4, 5, 6, 7, 8, 9, 10, 11, 12, 13, 14, 15, 16, 17, 18, 19, 20, 21, 22, 23, 24, 25, 26, 27, 28, 29, 30, 31, 32, 33, 34, 35] [0] rfl rfl (by decide) rfl (by decide) (by decide) (ci := 9) (q0 := 0) rfl rfl rfl hl.1 rfl (Nat.le_of_ble_eq_true rfl) dL_order_7 ⟨Nat.le_of_ble_eq_true rfl, Nat.le_of_ble_eq_true rfl⟩ (fun ce q9 H locs hP hD hS h1 h2 h3 => ?_)
  replace hP : va_P D vwCl (wL cI cZ cJ ad o f w') H := hP
  replace hD : va_D A (wL cI cZ cJ ad o f w') := hD
  refine vx_catch (name := "java/lang/IllegalArgumentException") hown [⟨0, 12, 15, 24⟩] ⟨0, 12, 19, 13⟩ [⟨0, 12, 23, 18⟩] hT (List.forall_mem_cons.mpr ⟨Or.inr ⟨by decide, "java/lang/IndexOutOfBoundsException", hts _ mw_587, hZ.2.2.2.2.2.2.2.2.2.2 ("java/lang/IllegalArgumentException", "java/lang/IndexOutOfBoundsException") (by decide +kernel)⟩, (fun _ h => absurd h List.not_mem_nil)⟩) (by decide) (by decide) (hts _ mw_386) (va_Nw.use rfl (hZ.2.2.2.2.2.2.2.2.2.1 "java/lang/IllegalArgumentException" (by decide +kernel))) h1 h2 h3 ?_
  refine lv_astore (lv' := [(5, .ref q9), (0, .ref (ad 0)), (1, .int p0), (2, .int p1), (3, .int p2), (4, .ref o)]) hx hb dL_order_19 hl (by decide) rfl (fun ls hl => ?_)
  refine lv_iconst (v := 2) hx hb dL_order_21 (by decide) ?_
  exact cc_retC hx hb hr rfl hQ hK hP hD hS rfl dL_order_22 hlocks
set_option maxHeartbeats 4000000 in
set_option maxRecDepth 100000 in
theorem kx3_L_order (l : Launch) (hl0 : l.stackTraces = false) (D : va_G) (cI cZ cJ : ClassId) (ad : Nat → Nat) (o : Nat) (f : Nat → Int64) (u : GS) (p0 : Int32) (p1 : Int32) (p2 : Int32) {w' : GS} (h : g_X9_order u p0 p1 p2 = some (.inr "java/lang/IllegalStateException", w')) : MJ l yL_order (wmH yL_order cL_order 6 (some .int) [(0, 12, 15, 24), (0, 12, 19, 13), (0, 12, 23, 18)]) rx_L_order D [(cI, .int), (cZ, .boolean), (cJ, .long)] (wL cI cZ cJ ad o f u) (wL cI cZ cJ ad o f w') [.ref (ad 0), .int p0, .int p1, .int p2, .ref o] 3 1 6 := by
  intro sz
  refine va_MetW (cc := cL_order) (maxL := 6) (ret := some .int) (hh := [(0, 12, 15, 24), (0, 12, 19, 13), (0, 12, 23, 18)]) (by decide) rfl ?_
  intro p e s m args below meth c s₁ B hml hv
  obtain ⟨rfl, hsz, hP, hK, hD0, hZ⟩ := hv
  have hx := B.exec
  have hb := B.bytes
  have hr := B.returns
  have hts0 := atoms_spec (ws := wmH yL_order cL_order 6 (some .int) [(0, 12, 15, 24), (0, 12, 19, 13), (0, 12, 23, 18)]) B.pre
  have hts : ∀ w ∈ Wall, w.before _ s = true := fun w hw => hts0 w (List.mem_cons_of_mem _ hw)
  have hown : s.vm.findClass RL = some m.cls := findClass_of_methodNamed B.named
  have hlocks := B.notSynchronized
  subst hsz
  have hD := hD0.self (sz := s.heap.size)
  generalize hAe : va_A (wL cI cZ cJ ad o f u) s.heap.size = A at hD hZ ⊢
  have hA : ∀ q : Nat, s.heap.size ≤ q → A q := fun q h => by rw [← hAe]; exact Or.inr h
  have hS : va_S A s.heap s.heap [] := va_S.rf
  have hT := vx_table (x := yL_order) B (hts0 _ List.mem_cons_self)
  have hl := lv_entry ([.ref (ad 0), .int p0, .int p1, .int p2, .ref o]) (n := 6) (Nat.le_of_ble_eq_true rfl)
  rw [lg_entry_eq]
  generalize (lg_sl ([.ref (ad 0), .int p0, .int p1, .int p2, .ref o]) ++ List.replicate (6 - (lg_sl ([.ref (ad 0), .int p0, .int p1, .int p2, .ref o])).length) Slot.unset).toArray = ls at hl ⊢
  replace hl : lv_has ls 6 [(0, .ref (ad 0)), (1, .int p0), (2, .int p1), (3, .int p2), (4, .ref o)] := hl
  refine w_gen (fun Q hQ => ?_)
  refine lv_aload hx hb dL_order_0 (lv_at hl 4 rfl) ?_
  refine lv_iconst (v := 0) hx hb dL_order_2 (by decide) ?_
  refine lv_aload_n hx hb dL_order_3 rfl (lv_at hl 0 rfl) ?_
  refine lv_iload_n hx hb dL_order_4 rfl (lv_at hl 1 rfl) ?_
  refine lv_iload_n hx hb dL_order_5 rfl (lv_at hl 2 rfl) ?_
  refine lv_iload_n hx hb dL_order_6 rfl (lv_at hl 3 rfl) ?_
  refine cX_iVF (As := [.int p0, .int p1, .int p2]) (rest := [.int 0, .ref o]) (wr := [(o, .inl (cJ, 1, .inr (.inl f)))]) ⟨hx, hb, hml, hown, hts⟩ (kx_X9_order l hl0 D cI cZ ad u p0 p1 p2 h) (cwV 3 hts (gwV mw_665 mw_666 mw_667 mw_48 mw_668) rfl rfl rfl (by decide +kernel) ⟨Nat.le_of_ble_eq_true rfl, Nat.le_of_ble_eq_true rfl⟩) (hK.sub [0, 1] rfl) hP hD hS hA hZ [1, 2, 3, 4, 5, 6, 7, 8, 9, 10, 11, 12, 13, 14, 15, 16, 17, 18, 19, 20, 21, 22, 23, 24, 25, 26, 27, 28, 29, 30, 31, 32, 33, 34, 35] [0] rfl rfl (by decide) rfl (by decide) (by decide) (ci := 9) (q0 := 0) rfl rfl rfl hl.1 rfl (Nat.le_of_ble_eq_true rfl) dL_order_7 ⟨Nat.le_of_ble_eq_true rfl, Nat.le_of_ble_eq_true rfl⟩ (fun ce q9 H locs hP hD hS h1 h2 h3 => ?_)
  replace hP : va_P D vwCl (wL cI cZ cJ ad o f w') H := hP
  replace hD : va_D A (wL cI cZ cJ ad o f w') := hD
  refine vx_catch (name := "java/lang/IllegalStateException") hown [⟨0, 12, 15, 24⟩, ⟨0, 12, 19, 13⟩] ⟨0, 12, 23, 18⟩ [] hT (List.forall_mem_cons.mpr ⟨Or.inr ⟨by decide, "java/lang/IndexOutOfBoundsException", hts _ mw_587, hZ.2.2.2.2.2.2.2.2.2.2 ("java/lang/IllegalStateException", "java/lang/IndexOutOfBoundsException") (by decide +kernel)⟩, (List.forall_mem_cons.mpr ⟨Or.inr ⟨by decide, "java/lang/IllegalArgumentException", hts _ mw_386, hZ.2.2.2.2.2.2.2.2.2.2 ("java/lang/IllegalStateException", "java/lang/IllegalArgumentException") (by decide +kernel)⟩, (fun _ h => absurd h List.not_mem_nil)⟩)⟩) (by decide) (by decide) (hts _ mw_466) (va_Nw.use rfl (hZ.2.2.2.2.2.2.2.2.2.1 "java/lang/IllegalStateException" (by decide +kernel))) h1 h2 h3 ?_
  refine lv_astore (lv' := [(5, .ref q9), (0, .ref (ad 0)), (1, .int p0), (2, .int p1), (3, .int p2), (4, .ref o)]) hx hb dL_order_23 hl (by decide) rfl (fun ls hl => ?_)
  refine lv_iconst (v := 3) hx hb dL_order_25 (by decide) ?_
  exact cc_retC hx hb hr rfl hQ hK hP hD hS rfl dL_order_26 hlocks

def rL_sign : Room := { frames := 6, cells := 0, slots := 0, locals := 136 }
def rx_L_sign : Room := { frames := 10, cells := 1, slots := 6, locals := 173 }
set_option maxHeartbeats 4000000 in
set_option maxRecDepth 100000 in
theorem k_L_sign (l : Launch) (D : va_G) (cI cZ cJ : ClassId) (ad : Nat → Nat) (o : Nat) (f : Nat → Int64) (u : GS) (p0 : Int32) (p1 : Int32) {r : Int32} {w' : GS} (h : g_X9_sign u p0 p1 = some (.inl r, w')) : MJ l yL_sign (wmH yL_sign cL_sign 5 (some .int) [(0, 10, 13, 24)]) rL_sign D [(cI, .int), (cZ, .boolean), (cJ, .long)] (wL cI cZ cJ ad o f u) (wL cI cZ cJ ad o (vp_updL f (0 : Int32).toNatClampNeg r.toInt64) w') [.ref (ad 0), .int p0, .int p1, .ref o] 0 0 0 := by
  intro sz
  refine va_MetW (cc := cL_sign) (maxL := 5) (ret := some .int) (hh := [(0, 10, 13, 24)]) (by decide) rfl ?_
  intro p e s m args below meth c s₁ B hml hv
  obtain ⟨rfl, hsz, hP, hK, hD0, hZ⟩ := hv
  have hx := B.exec
  have hb := B.bytes
  have hr := B.returns
  have hts0 := atoms_spec (ws := wmH yL_sign cL_sign 5 (some .int) [(0, 10, 13, 24)]) B.pre
  have hts : ∀ w ∈ Wall, w.before _ s = true := fun w hw => hts0 w (List.mem_cons_of_mem _ hw)
  have hown : s.vm.findClass RL = some m.cls := findClass_of_methodNamed B.named
  have hlocks := B.notSynchronized
  subst hsz
  have hD := hD0.self (sz := s.heap.size)
  generalize hAe : va_A (wL cI cZ cJ ad o f u) s.heap.size = A at hD hZ ⊢
  have hA : ∀ q : Nat, s.heap.size ≤ q → A q := fun q h => by rw [← hAe]; exact Or.inr h
  have hS : va_S A s.heap s.heap [] := va_S.rf
  have hl := lv_entry ([.ref (ad 0), .int p0, .int p1, .ref o]) (n := 5) (Nat.le_of_ble_eq_true rfl)
  rw [lg_entry_eq]
  generalize (lg_sl ([.ref (ad 0), .int p0, .int p1, .ref o]) ++ List.replicate (5 - (lg_sl ([.ref (ad 0), .int p0, .int p1, .ref o])).length) Slot.unset).toArray = ls at hl ⊢
  replace hl : lv_has ls 5 [(0, .ref (ad 0)), (1, .int p0), (2, .int p1), (3, .ref o)] := hl
  refine w_gen (fun Q hQ => ?_)
  refine lv_aload_n hx hb dL_sign_0 rfl (lv_at hl 3 rfl) ?_
  refine lv_iconst (v := 0) hx hb dL_sign_1 (by decide) ?_
  refine lv_aload_n hx hb dL_sign_2 rfl (lv_at hl 0 rfl) ?_
  refine lv_iload_n hx hb dL_sign_3 rfl (lv_at hl 1 rfl) ?_
  refine lv_iload_n hx hb dL_sign_4 rfl (lv_at hl 2 rfl) ?_
  refine cc_iVF (As := [.int p0, .int p1]) (rest := [.int 0, .ref o]) (wr := [(o, .inl (cJ, 1, .inr (.inl f)))]) ⟨hx, hb, hml, hown, hts⟩ (k_X9_sign l D cI cZ ad u p0 p1 h) (cwV 2 hts (gwV mw_672 mw_673 mw_674 mw_48 mw_675) rfl rfl rfl (by decide +kernel) ⟨Nat.le_of_ble_eq_true rfl, Nat.le_of_ble_eq_true rfl⟩) (hK.sub [0, 1] rfl) hP hD hS hA hZ [1, 2, 3, 4, 5, 6, 7, 8, 9, 10, 11, 12, 13, 14, 15, 16, 17, 18, 19, 20, 21, 22, 23, 24, 25, 26, 27, 28, 29, 30, 31, 32, 33, 34, 35] [0] rfl rfl (by decide) rfl (by decide) (by decide) (ci := 9) (q0 := 0) rfl rfl rfl hl.1 rfl (Nat.le_of_ble_eq_true rfl) dL_sign_5 ⟨Nat.zero_le _, Nat.zero_le _⟩ (fun H locs hP hD hS => ?_)
  replace hP : va_P D vwCl (wL cI cZ cJ ad o f w') H := hP
  replace hD : va_D A (wL cI cZ cJ ad o f w') := hD
  refine lv_i2l (v := r.toInt64) hx hb dL_sign_8 rfl ?_
  refine va_last (D := D) hx hb hK hP hD hS 0 2 rfl rfl (by unfold vp_in; decide) dL_sign_9 (fun H locs hP hD hS => ?_)
  replace hP : va_P D vwCl (wL cI cZ cJ ad o (vp_updL f (0 : Int32).toNatClampNeg r.toInt64) w') H := hP
  replace hD : va_D A (wL cI cZ cJ ad o (vp_updL f (0 : Int32).toNatClampNeg r.toInt64) w') := hD
  refine lv_goto (tgt := 17) hx hb dL_sign_10 (by decide) ?_
  refine lv_iconst (v := 0) hx hb dL_sign_17 (by decide) ?_
  exact cc_retC hx hb hr rfl hQ hK hP hD hS rfl dL_sign_18 hlocks
set_option maxHeartbeats 4000000 in
set_option maxRecDepth 100000 in
theorem kx1_L_sign (l : Launch) (hl0 : l.stackTraces = false) (D : va_G) (cI cZ cJ : ClassId) (ad : Nat → Nat) (o : Nat) (f : Nat → Int64) (u : GS) (p0 : Int32) (p1 : Int32) {w' : GS} (h : g_X9_sign u p0 p1 = some (.inr "java/lang/IndexOutOfBoundsException", w')) : MJ l yL_sign (wmH yL_sign cL_sign 5 (some .int) [(0, 10, 13, 24)]) rx_L_sign D [(cI, .int), (cZ, .boolean), (cJ, .long)] (wL cI cZ cJ ad o f u) (wL cI cZ cJ ad o f w') [.ref (ad 0), .int p0, .int p1, .ref o] 1 1 6 := by
  intro sz
  refine va_MetW (cc := cL_sign) (maxL := 5) (ret := some .int) (hh := [(0, 10, 13, 24)]) (by decide) rfl ?_
  intro p e s m args below meth c s₁ B hml hv
  obtain ⟨rfl, hsz, hP, hK, hD0, hZ⟩ := hv
  have hx := B.exec
  have hb := B.bytes
  have hr := B.returns
  have hts0 := atoms_spec (ws := wmH yL_sign cL_sign 5 (some .int) [(0, 10, 13, 24)]) B.pre
  have hts : ∀ w ∈ Wall, w.before _ s = true := fun w hw => hts0 w (List.mem_cons_of_mem _ hw)
  have hown : s.vm.findClass RL = some m.cls := findClass_of_methodNamed B.named
  have hlocks := B.notSynchronized
  subst hsz
  have hD := hD0.self (sz := s.heap.size)
  generalize hAe : va_A (wL cI cZ cJ ad o f u) s.heap.size = A at hD hZ ⊢
  have hA : ∀ q : Nat, s.heap.size ≤ q → A q := fun q h => by rw [← hAe]; exact Or.inr h
  have hS : va_S A s.heap s.heap [] := va_S.rf
  have hT := vx_table (x := yL_sign) B (hts0 _ List.mem_cons_self)
  have hl := lv_entry ([.ref (ad 0), .int p0, .int p1, .ref o]) (n := 5) (Nat.le_of_ble_eq_true rfl)
  rw [lg_entry_eq]
  generalize (lg_sl ([.ref (ad 0), .int p0, .int p1, .ref o]) ++ List.replicate (5 - (lg_sl ([.ref (ad 0), .int p0, .int p1, .ref o])).length) Slot.unset).toArray = ls at hl ⊢
  replace hl : lv_has ls 5 [(0, .ref (ad 0)), (1, .int p0), (2, .int p1), (3, .ref o)] := hl
  refine w_gen (fun Q hQ => ?_)
  refine lv_aload_n hx hb dL_sign_0 rfl (lv_at hl 3 rfl) ?_
  refine lv_iconst (v := 0) hx hb dL_sign_1 (by decide) ?_
  refine lv_aload_n hx hb dL_sign_2 rfl (lv_at hl 0 rfl) ?_
  refine lv_iload_n hx hb dL_sign_3 rfl (lv_at hl 1 rfl) ?_
  refine lv_iload_n hx hb dL_sign_4 rfl (lv_at hl 2 rfl) ?_
  refine cX_iVF (As := [.int p0, .int p1]) (rest := [.int 0, .ref o]) (wr := [(o, .inl (cJ, 1, .inr (.inl f)))]) ⟨hx, hb, hml, hown, hts⟩ (kx_X9_sign l hl0 D cI cZ ad u p0 p1 h) (cwV 2 hts (gwV mw_672 mw_673 mw_674 mw_48 mw_675) rfl rfl rfl (by decide +kernel) ⟨Nat.le_of_ble_eq_true rfl, Nat.le_of_ble_eq_true rfl⟩) (hK.sub [0, 1] rfl) hP hD hS hA hZ [1, 2, 3, 4, 5, 6, 7, 8, 9, 10, 11, 12, 13, 14, 15, 16, 17, 18, 19, 20, 21, 22, 23, 24, 25, 26, 27, 28, 29, 30, 31, 32, 33, 34, 35] [0] rfl rfl (by decide) rfl (by decide) (by decide) (ci := 9) (q0 := 0) rfl rfl rfl hl.1 rfl (Nat.le_of_ble_eq_true rfl) dL_sign_5 ⟨Nat.le_of_ble_eq_true rfl, Nat.le_of_ble_eq_true rfl⟩ (fun ce q9 H locs hP hD hS h1 h2 h3 => ?_)
  replace hP : va_P D vwCl (wL cI cZ cJ ad o f w') H := hP
  replace hD : va_D A (wL cI cZ cJ ad o f w') := hD
  refine vx_catch (name := "java/lang/IndexOutOfBoundsException") hown [] ⟨0, 10, 13, 24⟩ [] hT (fun _ h => absurd h List.not_mem_nil) (by decide) (by decide) (hts _ mw_587) (va_Nw.use rfl (hZ.2.2.2.2.2.2.2.2.2.1 "java/lang/IndexOutOfBoundsException" (by decide +kernel))) h1 h2 h3 ?_
  refine lv_astore (lv' := [(4, .ref q9), (0, .ref (ad 0)), (1, .int p0), (2, .int p1), (3, .ref o)]) hx hb dL_sign_13 hl (by decide) rfl (fun ls hl => ?_)
  refine lv_iconst (v := 1) hx hb dL_sign_15 (by decide) ?_
  exact cc_retC hx hb hr rfl hQ hK hP hD hS rfl dL_sign_16 hlocks

def rL_look : Room := { frames := 4, cells := 0, slots := 0, locals := 86 }
def rx_L_look : Room := { frames := 9, cells := 1, slots := 6, locals := 152 }
set_option maxHeartbeats 4000000 in
set_option maxRecDepth 100000 in
theorem k_L_look (l : Launch) (D : va_G) (cI cZ cJ : ClassId) (ad : Nat → Nat) (o : Nat) (f : Nat → Int64) (u : GS) (p0 : Int32) {r : Int32} {w' : GS} (h : g_X9_look u p0 = some (.inl r, w')) : MJ l yL_look (wmH yL_look cL_look 4 (some .int) [(0, 16, 19, 24)]) rL_look D [(cI, .int), (cZ, .boolean), (cJ, .long)] (wL cI cZ cJ ad o f u) (wL cI cZ cJ ad o (vp_updL f (0 : Int32).toNatClampNeg (if r = 0 then 0 else 1)) w') [.ref (ad 0), .int p0, .ref o] 0 0 0 := by
  intro sz
  refine va_MetW (cc := cL_look) (maxL := 4) (ret := some .int) (hh := [(0, 16, 19, 24)]) (by decide) rfl ?_
  intro p e s m args below meth c s₁ B hml hv
  obtain ⟨rfl, hsz, hP, hK, hD0, hZ⟩ := hv
  have hx := B.exec
  have hb := B.bytes
  have hr := B.returns
  have hts0 := atoms_spec (ws := wmH yL_look cL_look 4 (some .int) [(0, 16, 19, 24)]) B.pre
  have hts : ∀ w ∈ Wall, w.before _ s = true := fun w hw => hts0 w (List.mem_cons_of_mem _ hw)
  have hown : s.vm.findClass RL = some m.cls := findClass_of_methodNamed B.named
  have hlocks := B.notSynchronized
  subst hsz
  have hD := hD0.self (sz := s.heap.size)
  generalize hAe : va_A (wL cI cZ cJ ad o f u) s.heap.size = A at hD hZ ⊢
  have hA : ∀ q : Nat, s.heap.size ≤ q → A q := fun q h => by rw [← hAe]; exact Or.inr h
  have hS : va_S A s.heap s.heap [] := va_S.rf
  have hl := lv_entry ([.ref (ad 0), .int p0, .ref o]) (n := 4) (Nat.le_of_ble_eq_true rfl)
  rw [lg_entry_eq]
  generalize (lg_sl ([.ref (ad 0), .int p0, .ref o]) ++ List.replicate (4 - (lg_sl ([.ref (ad 0), .int p0, .ref o])).length) Slot.unset).toArray = ls at hl ⊢
  replace hl : lv_has ls 4 [(0, .ref (ad 0)), (1, .int p0), (2, .ref o)] := hl
  refine w_gen (fun Q hQ => ?_)
  refine lv_aload_n hx hb dL_look_0 rfl (lv_at hl 2 rfl) ?_
  refine lv_iconst (v := 0) hx hb dL_look_1 (by decide) ?_
  refine lv_aload_n hx hb dL_look_2 rfl (lv_at hl 0 rfl) ?_
  refine lv_iload_n hx hb dL_look_3 rfl (lv_at hl 1 rfl) ?_
  refine cc_iVF (As := [.int p0]) (rest := [.int 0, .ref o]) (wr := [(o, .inl (cJ, 1, .inr (.inl f)))]) ⟨hx, hb, hml, hown, hts⟩ (k_X9_look l D cI cZ ad u p0 h) (cwV 1 hts (gwV mw_679 mw_680 mw_681 mw_48 mw_682) rfl rfl rfl (by decide +kernel) ⟨Nat.le_of_ble_eq_true rfl, Nat.le_of_ble_eq_true rfl⟩) (hK.sub [0, 1] rfl) hP hD hS hA hZ [1, 2, 3, 4, 5, 6, 7, 8, 9, 10, 11, 12, 13, 14, 15, 16, 17, 18, 19, 20, 21, 22, 23, 24, 25, 26, 27, 28, 29, 30, 31, 32, 33, 34, 35] [0] rfl rfl (by decide) rfl (by decide) (by decide) (ci := 9) (q0 := 0) rfl rfl rfl hl.1 rfl (Nat.le_of_ble_eq_true rfl) dL_look_4 ⟨Nat.zero_le _, Nat.zero_le _⟩ (fun H locs hP hD hS => ?_)
  replace hP : va_P D vwCl (wL cI cZ cJ ad o f w') H := hP
  replace hD : va_D A (wL cI cZ cJ ad o f w') := hD
  refine lv_if_eq (tgt := 14) hx hb dL_look_7 (by decide) (fun c1 => ?_) (fun c1 => ?_)
  · refine lv_lconst (v := 0) hx hb dL_look_14 (by decide) ?_
    refine va_last (D := D) hx hb hK hP hD hS 0 2 rfl rfl (by unfold vp_in; decide) dL_look_15 (fun H locs hP hD hS => ?_)
    replace hP : va_P D vwCl (wL cI cZ cJ ad o (vp_updL f (0 : Int32).toNatClampNeg (if r = 0 then 0 else 1)) w') H := by rw [if_pos c1]; exact hP
    replace hD : va_D A (wL cI cZ cJ ad o (vp_updL f (0 : Int32).toNatClampNeg (if r = 0 then 0 else 1)) w') := by rw [if_pos c1]; exact hD
    refine lv_goto (tgt := 22) hx hb dL_look_16 (by decide) ?_
    refine lv_iconst (v := 0) hx hb dL_look_22 (by decide) ?_
    exact cc_retC hx hb hr rfl hQ hK hP hD hS rfl dL_look_23 hlocks
  · refine lv_lconst (v := 1) hx hb dL_look_10 (by decide) ?_
    refine lv_goto (tgt := 15) hx hb dL_look_11 (by decide) ?_
    refine va_last (D := D) hx hb hK hP hD hS 0 2 rfl rfl (by unfold vp_in; decide) dL_look_15 (fun H locs hP hD hS => ?_)
    replace hP : va_P D vwCl (wL cI cZ cJ ad o (vp_updL f (0 : Int32).toNatClampNeg (if r = 0 then 0 else 1)) w') H := by rw [if_neg c1]; exact hP
    replace hD : va_D A (wL cI cZ cJ ad o (vp_updL f (0 : Int32).toNatClampNeg (if r = 0 then 0 else 1)) w') := by rw [if_neg c1]; exact hD
    refine lv_goto (tgt := 22) hx hb dL_look_16 (by decide) ?_
    refine lv_iconst (v := 0) hx hb dL_look_22 (by decide) ?_
    exact cc_retC hx hb hr rfl hQ hK hP hD hS rfl dL_look_23 hlocks
set_option maxHeartbeats 4000000 in
set_option maxRecDepth 100000 in
theorem kx1_L_look (l : Launch) (hl0 : l.stackTraces = false) (D : va_G) (cI cZ cJ : ClassId) (ad : Nat → Nat) (o : Nat) (f : Nat → Int64) (u : GS) (p0 : Int32) {w' : GS} (h : g_X9_look u p0 = some (.inr "java/lang/IndexOutOfBoundsException", w')) : MJ l yL_look (wmH yL_look cL_look 4 (some .int) [(0, 16, 19, 24)]) rx_L_look D [(cI, .int), (cZ, .boolean), (cJ, .long)] (wL cI cZ cJ ad o f u) (wL cI cZ cJ ad o f w') [.ref (ad 0), .int p0, .ref o] 1 1 6 := by
  intro sz
  refine va_MetW (cc := cL_look) (maxL := 4) (ret := some .int) (hh := [(0, 16, 19, 24)]) (by decide) rfl ?_
  intro p e s m args below meth c s₁ B hml hv
  obtain ⟨rfl, hsz, hP, hK, hD0, hZ⟩ := hv
  have hx := B.exec
  have hb := B.bytes
  have hr := B.returns
  have hts0 := atoms_spec (ws := wmH yL_look cL_look 4 (some .int) [(0, 16, 19, 24)]) B.pre
  have hts : ∀ w ∈ Wall, w.before _ s = true := fun w hw => hts0 w (List.mem_cons_of_mem _ hw)
  have hown : s.vm.findClass RL = some m.cls := findClass_of_methodNamed B.named
  have hlocks := B.notSynchronized
  subst hsz
  have hD := hD0.self (sz := s.heap.size)
  generalize hAe : va_A (wL cI cZ cJ ad o f u) s.heap.size = A at hD hZ ⊢
  have hA : ∀ q : Nat, s.heap.size ≤ q → A q := fun q h => by rw [← hAe]; exact Or.inr h
  have hS : va_S A s.heap s.heap [] := va_S.rf
  have hT := vx_table (x := yL_look) B (hts0 _ List.mem_cons_self)
  have hl := lv_entry ([.ref (ad 0), .int p0, .ref o]) (n := 4) (Nat.le_of_ble_eq_true rfl)
  rw [lg_entry_eq]
  generalize (lg_sl ([.ref (ad 0), .int p0, .ref o]) ++ List.replicate (4 - (lg_sl ([.ref (ad 0), .int p0, .ref o])).length) Slot.unset).toArray = ls at hl ⊢
  replace hl : lv_has ls 4 [(0, .ref (ad 0)), (1, .int p0), (2, .ref o)] := hl
  refine w_gen (fun Q hQ => ?_)
  refine lv_aload_n hx hb dL_look_0 rfl (lv_at hl 2 rfl) ?_
  refine lv_iconst (v := 0) hx hb dL_look_1 (by decide) ?_
  refine lv_aload_n hx hb dL_look_2 rfl (lv_at hl 0 rfl) ?_
  refine lv_iload_n hx hb dL_look_3 rfl (lv_at hl 1 rfl) ?_
  refine cX_iVF (As := [.int p0]) (rest := [.int 0, .ref o]) (wr := [(o, .inl (cJ, 1, .inr (.inl f)))]) ⟨hx, hb, hml, hown, hts⟩ (kx_X9_look l hl0 D cI cZ ad u p0 h) (cwV 1 hts (gwV mw_679 mw_680 mw_681 mw_48 mw_682) rfl rfl rfl (by decide +kernel) ⟨Nat.le_of_ble_eq_true rfl, Nat.le_of_ble_eq_true rfl⟩) (hK.sub [0, 1] rfl) hP hD hS hA hZ [1, 2, 3, 4, 5, 6, 7, 8, 9, 10, 11, 12, 13, 14, 15, 16, 17, 18, 19, 20, 21, 22, 23, 24, 25, 26, 27, 28, 29, 30, 31, 32, 33, 34, 35] [0] rfl rfl (by decide) rfl (by decide) (by decide) (ci := 9) (q0 := 0) rfl rfl rfl hl.1 rfl (Nat.le_of_ble_eq_true rfl) dL_look_4 ⟨Nat.le_of_ble_eq_true rfl, Nat.le_of_ble_eq_true rfl⟩ (fun ce q9 H locs hP hD hS h1 h2 h3 => ?_)
  replace hP : va_P D vwCl (wL cI cZ cJ ad o f w') H := hP
  replace hD : va_D A (wL cI cZ cJ ad o f w') := hD
  refine vx_catch (name := "java/lang/IndexOutOfBoundsException") hown [] ⟨0, 16, 19, 24⟩ [] hT (fun _ h => absurd h List.not_mem_nil) (by decide) (by decide) (hts _ mw_587) (va_Nw.use rfl (hZ.2.2.2.2.2.2.2.2.2.1 "java/lang/IndexOutOfBoundsException" (by decide +kernel))) h1 h2 h3 ?_
  refine lv_astore_n (lv' := [(3, .ref q9), (0, .ref (ad 0)), (1, .int p0), (2, .ref o)]) hx hb dL_look_19 rfl hl (by decide) rfl (fun ls hl => ?_)
  refine lv_iconst (v := 1) hx hb dL_look_20 (by decide) ?_
  exact cc_retC hx hb hr rfl hQ hK hP hD hS rfl dL_look_21 hlocks

def rL_openShoulder : Room := { frames := 3, cells := 0, slots := 0, locals := 68 }
def rx_L_openShoulder : Room := { frames := 9, cells := 1, slots := 6, locals := 152 }
set_option maxHeartbeats 4000000 in
set_option maxRecDepth 100000 in
theorem k_L_openShoulder (l : Launch) (D : va_G) (cI cZ cJ : ClassId) (ad : Nat → Nat) (o : Nat) (f : Nat → Int64) (u : GS) (p0 : Int32) (p1 : Int32) {r : Int32} {w' : GS} (h : g_X9_openShoulder u p0 p1 = some (.inl r, w')) : MJ l yL_openShoulder (wmH yL_openShoulder cL_openShoulder 5 (some .int) [(0, 10, 13, 24), (0, 10, 17, 13), (0, 10, 21, 18)]) rL_openShoulder D [(cI, .int), (cZ, .boolean), (cJ, .long)] (wL cI cZ cJ ad o f u) (wL cI cZ cJ ad o (vp_updL f (0 : Int32).toNatClampNeg r.toInt64) w') [.ref (ad 0), .int p0, .int p1, .ref o] 0 0 0 := by
  intro sz
  refine va_MetW (cc := cL_openShoulder) (maxL := 5) (ret := some .int) (hh := [(0, 10, 13, 24), (0, 10, 17, 13), (0, 10, 21, 18)]) (by decide) rfl ?_
  intro p e s m args below meth c s₁ B hml hv
  obtain ⟨rfl, hsz, hP, hK, hD0, hZ⟩ := hv
  have hx := B.exec
  have hb := B.bytes
  have hr := B.returns
  have hts0 := atoms_spec (ws := wmH yL_openShoulder cL_openShoulder 5 (some .int) [(0, 10, 13, 24), (0, 10, 17, 13), (0, 10, 21, 18)]) B.pre
  have hts : ∀ w ∈ Wall, w.before _ s = true := fun w hw => hts0 w (List.mem_cons_of_mem _ hw)
  have hown : s.vm.findClass RL = some m.cls := findClass_of_methodNamed B.named
  have hlocks := B.notSynchronized
  subst hsz
  have hD := hD0.self (sz := s.heap.size)
  generalize hAe : va_A (wL cI cZ cJ ad o f u) s.heap.size = A at hD hZ ⊢
  have hA : ∀ q : Nat, s.heap.size ≤ q → A q := fun q h => by rw [← hAe]; exact Or.inr h
  have hS : va_S A s.heap s.heap [] := va_S.rf
  have hl := lv_entry ([.ref (ad 0), .int p0, .int p1, .ref o]) (n := 5) (Nat.le_of_ble_eq_true rfl)
  rw [lg_entry_eq]
  generalize (lg_sl ([.ref (ad 0), .int p0, .int p1, .ref o]) ++ List.replicate (5 - (lg_sl ([.ref (ad 0), .int p0, .int p1, .ref o])).length) Slot.unset).toArray = ls at hl ⊢
  replace hl : lv_has ls 5 [(0, .ref (ad 0)), (1, .int p0), (2, .int p1), (3, .ref o)] := hl
  refine w_gen (fun Q hQ => ?_)
  refine lv_aload_n hx hb dL_openShoulder_0 rfl (lv_at hl 3 rfl) ?_
  refine lv_iconst (v := 0) hx hb dL_openShoulder_1 (by decide) ?_
  refine lv_aload_n hx hb dL_openShoulder_2 rfl (lv_at hl 0 rfl) ?_
  refine lv_iload_n hx hb dL_openShoulder_3 rfl (lv_at hl 1 rfl) ?_
  refine lv_iload_n hx hb dL_openShoulder_4 rfl (lv_at hl 2 rfl) ?_
  refine cc_iVF (As := [.int p0, .int p1]) (rest := [.int 0, .ref o]) (wr := [(o, .inl (cJ, 1, .inr (.inl f)))]) ⟨hx, hb, hml, hown, hts⟩ (k_X9_openShoulder l D cI cZ ad u p0 p1 h) (cwV 2 hts (gwV mw_690 mw_691 mw_692 mw_48 mw_693) rfl rfl rfl (by decide +kernel) ⟨Nat.le_of_ble_eq_true rfl, Nat.le_of_ble_eq_true rfl⟩) (hK.sub [0, 1] rfl) hP hD hS hA hZ [1, 2, 3, 4, 5, 6, 7, 8, 9, 10, 11, 12, 13, 14, 15, 16, 17, 18, 19, 20, 21, 22, 23, 24, 25, 26, 27, 28, 29, 30, 31, 32, 33, 34, 35] [0] rfl rfl (by decide) rfl (by decide) (by decide) (ci := 9) (q0 := 0) rfl rfl rfl hl.1 rfl (Nat.le_of_ble_eq_true rfl) dL_openShoulder_5 ⟨Nat.zero_le _, Nat.zero_le _⟩ (fun H locs hP hD hS => ?_)
  replace hP : va_P D vwCl (wL cI cZ cJ ad o f w') H := hP
  replace hD : va_D A (wL cI cZ cJ ad o f w') := hD
  refine lv_i2l (v := r.toInt64) hx hb dL_openShoulder_8 rfl ?_
  refine va_last (D := D) hx hb hK hP hD hS 0 2 rfl rfl (by unfold vp_in; decide) dL_openShoulder_9 (fun H locs hP hD hS => ?_)
  replace hP : va_P D vwCl (wL cI cZ cJ ad o (vp_updL f (0 : Int32).toNatClampNeg r.toInt64) w') H := hP
  replace hD : va_D A (wL cI cZ cJ ad o (vp_updL f (0 : Int32).toNatClampNeg r.toInt64) w') := hD
  refine lv_goto (tgt := 25) hx hb dL_openShoulder_10 (by decide) ?_
  refine lv_iconst (v := 0) hx hb dL_openShoulder_25 (by decide) ?_
  exact cc_retC hx hb hr rfl hQ hK hP hD hS rfl dL_openShoulder_26 hlocks
set_option maxHeartbeats 4000000 in
set_option maxRecDepth 100000 in
theorem kx1_L_openShoulder (l : Launch) (hl0 : l.stackTraces = false) (D : va_G) (cI cZ cJ : ClassId) (ad : Nat → Nat) (o : Nat) (f : Nat → Int64) (u : GS) (p0 : Int32) (p1 : Int32) {w' : GS} (h : g_X9_openShoulder u p0 p1 = some (.inr "java/lang/IndexOutOfBoundsException", w')) : MJ l yL_openShoulder (wmH yL_openShoulder cL_openShoulder 5 (some .int) [(0, 10, 13, 24), (0, 10, 17, 13), (0, 10, 21, 18)]) rx_L_openShoulder D [(cI, .int), (cZ, .boolean), (cJ, .long)] (wL cI cZ cJ ad o f u) (wL cI cZ cJ ad o f w') [.ref (ad 0), .int p0, .int p1, .ref o] 1 1 6 := by
  intro sz
  refine va_MetW (cc := cL_openShoulder) (maxL := 5) (ret := some .int) (hh := [(0, 10, 13, 24), (0, 10, 17, 13), (0, 10, 21, 18)]) (by decide) rfl ?_
  intro p e s m args below meth c s₁ B hml hv
  obtain ⟨rfl, hsz, hP, hK, hD0, hZ⟩ := hv
  have hx := B.exec
  have hb := B.bytes
  have hr := B.returns
  have hts0 := atoms_spec (ws := wmH yL_openShoulder cL_openShoulder 5 (some .int) [(0, 10, 13, 24), (0, 10, 17, 13), (0, 10, 21, 18)]) B.pre
  have hts : ∀ w ∈ Wall, w.before _ s = true := fun w hw => hts0 w (List.mem_cons_of_mem _ hw)
  have hown : s.vm.findClass RL = some m.cls := findClass_of_methodNamed B.named
  have hlocks := B.notSynchronized
  subst hsz
  have hD := hD0.self (sz := s.heap.size)
  generalize hAe : va_A (wL cI cZ cJ ad o f u) s.heap.size = A at hD hZ ⊢
  have hA : ∀ q : Nat, s.heap.size ≤ q → A q := fun q h => by rw [← hAe]; exact Or.inr h
  have hS : va_S A s.heap s.heap [] := va_S.rf
  have hT := vx_table (x := yL_openShoulder) B (hts0 _ List.mem_cons_self)
  have hl := lv_entry ([.ref (ad 0), .int p0, .int p1, .ref o]) (n := 5) (Nat.le_of_ble_eq_true rfl)
  rw [lg_entry_eq]
  generalize (lg_sl ([.ref (ad 0), .int p0, .int p1, .ref o]) ++ List.replicate (5 - (lg_sl ([.ref (ad 0), .int p0, .int p1, .ref o])).length) Slot.unset).toArray = ls at hl ⊢
  replace hl : lv_has ls 5 [(0, .ref (ad 0)), (1, .int p0), (2, .int p1), (3, .ref o)] := hl
  refine w_gen (fun Q hQ => ?_)
  refine lv_aload_n hx hb dL_openShoulder_0 rfl (lv_at hl 3 rfl) ?_
  refine lv_iconst (v := 0) hx hb dL_openShoulder_1 (by decide) ?_
  refine lv_aload_n hx hb dL_openShoulder_2 rfl (lv_at hl 0 rfl) ?_
  refine lv_iload_n hx hb dL_openShoulder_3 rfl (lv_at hl 1 rfl) ?_
  refine lv_iload_n hx hb dL_openShoulder_4 rfl (lv_at hl 2 rfl) ?_
  refine cX_iVF (As := [.int p0, .int p1]) (rest := [.int 0, .ref o]) (wr := [(o, .inl (cJ, 1, .inr (.inl f)))]) ⟨hx, hb, hml, hown, hts⟩ (kx_X9_openShoulder l hl0 D cI cZ ad u p0 p1 h) (cwV 2 hts (gwV mw_690 mw_691 mw_692 mw_48 mw_693) rfl rfl rfl (by decide +kernel) ⟨Nat.le_of_ble_eq_true rfl, Nat.le_of_ble_eq_true rfl⟩) (hK.sub [0, 1] rfl) hP hD hS hA hZ [1, 2, 3, 4, 5, 6, 7, 8, 9, 10, 11, 12, 13, 14, 15, 16, 17, 18, 19, 20, 21, 22, 23, 24, 25, 26, 27, 28, 29, 30, 31, 32, 33, 34, 35] [0] rfl rfl (by decide) rfl (by decide) (by decide) (ci := 9) (q0 := 0) rfl rfl rfl hl.1 rfl (Nat.le_of_ble_eq_true rfl) dL_openShoulder_5 ⟨Nat.le_of_ble_eq_true rfl, Nat.le_of_ble_eq_true rfl⟩ (fun ce q9 H locs hP hD hS h1 h2 h3 => ?_)
  replace hP : va_P D vwCl (wL cI cZ cJ ad o f w') H := hP
  replace hD : va_D A (wL cI cZ cJ ad o f w') := hD
  refine vx_catch (name := "java/lang/IndexOutOfBoundsException") hown [] ⟨0, 10, 13, 24⟩ [⟨0, 10, 17, 13⟩, ⟨0, 10, 21, 18⟩] hT (fun _ h => absurd h List.not_mem_nil) (by decide) (by decide) (hts _ mw_587) (va_Nw.use rfl (hZ.2.2.2.2.2.2.2.2.2.1 "java/lang/IndexOutOfBoundsException" (by decide +kernel))) h1 h2 h3 ?_
  refine lv_astore (lv' := [(4, .ref q9), (0, .ref (ad 0)), (1, .int p0), (2, .int p1), (3, .ref o)]) hx hb dL_openShoulder_13 hl (by decide) rfl (fun ls hl => ?_)
  refine lv_iconst (v := 1) hx hb dL_openShoulder_15 (by decide) ?_
  exact cc_retC hx hb hr rfl hQ hK hP hD hS rfl dL_openShoulder_16 hlocks
set_option maxHeartbeats 4000000 in
set_option maxRecDepth 100000 in
theorem kx2_L_openShoulder (l : Launch) (hl0 : l.stackTraces = false) (D : va_G) (cI cZ cJ : ClassId) (ad : Nat → Nat) (o : Nat) (f : Nat → Int64) (u : GS) (p0 : Int32) (p1 : Int32) {w' : GS} (h : g_X9_openShoulder u p0 p1 = some (.inr "java/lang/IllegalArgumentException", w')) : MJ l yL_openShoulder (wmH yL_openShoulder cL_openShoulder 5 (some .int) [(0, 10, 13, 24), (0, 10, 17, 13), (0, 10, 21, 18)]) rx_L_openShoulder D [(cI, .int), (cZ, .boolean), (cJ, .long)] (wL cI cZ cJ ad o f u) (wL cI cZ cJ ad o f w') [.ref (ad 0), .int p0, .int p1, .ref o] 2 1 6 := by
  intro sz
  refine va_MetW (cc := cL_openShoulder) (maxL := 5) (ret := some .int) (hh := [(0, 10, 13, 24), (0, 10, 17, 13), (0, 10, 21, 18)]) (by decide) rfl ?_
  intro p e s m args below meth c s₁ B hml hv
  obtain ⟨rfl, hsz, hP, hK, hD0, hZ⟩ := hv
  have hx := B.exec
  have hb := B.bytes
  have hr := B.returns
  have hts0 := atoms_spec (ws := wmH yL_openShoulder cL_openShoulder 5 (some .int) [(0, 10, 13, 24), (0, 10, 17, 13), (0, 10, 21, 18)]) B.pre
  have hts : ∀ w ∈ Wall, w.before _ s = true := fun w hw => hts0 w (List.mem_cons_of_mem _ hw)
  have hown : s.vm.findClass RL = some m.cls := findClass_of_methodNamed B.named
  have hlocks := B.notSynchronized
  subst hsz
  have hD := hD0.self (sz := s.heap.size)
  generalize hAe : va_A (wL cI cZ cJ ad o f u) s.heap.size = A at hD hZ ⊢
  have hA : ∀ q : Nat, s.heap.size ≤ q → A q := fun q h => by rw [← hAe]; exact Or.inr h
  have hS : va_S A s.heap s.heap [] := va_S.rf
  have hT := vx_table (x := yL_openShoulder) B (hts0 _ List.mem_cons_self)
  have hl := lv_entry ([.ref (ad 0), .int p0, .int p1, .ref o]) (n := 5) (Nat.le_of_ble_eq_true rfl)
  rw [lg_entry_eq]
  generalize (lg_sl ([.ref (ad 0), .int p0, .int p1, .ref o]) ++ List.replicate (5 - (lg_sl ([.ref (ad 0), .int p0, .int p1, .ref o])).length) Slot.unset).toArray = ls at hl ⊢
  replace hl : lv_has ls 5 [(0, .ref (ad 0)), (1, .int p0), (2, .int p1), (3, .ref o)] := hl
  refine w_gen (fun Q hQ => ?_)
  refine lv_aload_n hx hb dL_openShoulder_0 rfl (lv_at hl 3 rfl) ?_
  refine lv_iconst (v := 0) hx hb dL_openShoulder_1 (by decide) ?_
  refine lv_aload_n hx hb dL_openShoulder_2 rfl (lv_at hl 0 rfl) ?_
  refine lv_iload_n hx hb dL_openShoulder_3 rfl (lv_at hl 1 rfl) ?_
  refine lv_iload_n hx hb dL_openShoulder_4 rfl (lv_at hl 2 rfl) ?_
  refine cX_iVF (As := [.int p0, .int p1]) (rest := [.int 0, .ref o]) (wr := [(o, .inl (cJ, 1, .inr (.inl f)))]) ⟨hx, hb, hml, hown, hts⟩ (kx_X9_openShoulder l hl0 D cI cZ ad u p0 p1 h) (cwV 2 hts (gwV mw_690 mw_691 mw_692 mw_48 mw_693) rfl rfl rfl (by decide +kernel) ⟨Nat.le_of_ble_eq_true rfl, Nat.le_of_ble_eq_true rfl⟩) (hK.sub [0, 1] rfl) hP hD hS hA hZ [1, 2, 3, 4, 5, 6, 7, 8, 9, 10, 11, 12, 13, 14, 15, 16, 17, 18, 19, 20, 21, 22, 23, 24, 25, 26, 27, 28, 29, 30, 31, 32, 33, 34, 35] [0] rfl rfl (by decide) rfl (by decide) (by decide) (ci := 9) (q0 := 0) rfl rfl rfl hl.1 rfl (Nat.le_of_ble_eq_true rfl) dL_openShoulder_5 ⟨Nat.le_of_ble_eq_true rfl, Nat.le_of_ble_eq_true rfl⟩ (fun ce q9 H locs hP hD hS h1 h2 h3 => ?_)
  replace hP : va_P D vwCl (wL cI cZ cJ ad o f w') H := hP
  replace hD : va_D A (wL cI cZ cJ ad o f w') := hD
  refine vx_catch (name := "java/lang/IllegalArgumentException") hown [⟨0, 10, 13, 24⟩] ⟨0, 10, 17, 13⟩ [⟨0, 10, 21, 18⟩] hT (List.forall_mem_cons.mpr ⟨Or.inr ⟨by decide, "java/lang/IndexOutOfBoundsException", hts _ mw_587, hZ.2.2.2.2.2.2.2.2.2.2 ("java/lang/IllegalArgumentException", "java/lang/IndexOutOfBoundsException") (by decide +kernel)⟩, (fun _ h => absurd h List.not_mem_nil)⟩) (by decide) (by decide) (hts _ mw_386) (va_Nw.use rfl (hZ.2.2.2.2.2.2.2.2.2.1 "java/lang/IllegalArgumentException" (by decide +kernel))) h1 h2 h3 ?_
  refine lv_astore (lv' := [(4, .ref q9), (0, .ref (ad 0)), (1, .int p0), (2, .int p1), (3, .ref o)]) hx hb dL_openShoulder_17 hl (by decide) rfl (fun ls hl => ?_)
  refine lv_iconst (v := 2) hx hb dL_openShoulder_19 (by decide) ?_
  exact cc_retC hx hb hr rfl hQ hK hP hD hS rfl dL_openShoulder_20 hlocks
set_option maxHeartbeats 4000000 in
set_option maxRecDepth 100000 in
theorem kx3_L_openShoulder (l : Launch) (hl0 : l.stackTraces = false) (D : va_G) (cI cZ cJ : ClassId) (ad : Nat → Nat) (o : Nat) (f : Nat → Int64) (u : GS) (p0 : Int32) (p1 : Int32) {w' : GS} (h : g_X9_openShoulder u p0 p1 = some (.inr "java/lang/IllegalStateException", w')) : MJ l yL_openShoulder (wmH yL_openShoulder cL_openShoulder 5 (some .int) [(0, 10, 13, 24), (0, 10, 17, 13), (0, 10, 21, 18)]) rx_L_openShoulder D [(cI, .int), (cZ, .boolean), (cJ, .long)] (wL cI cZ cJ ad o f u) (wL cI cZ cJ ad o f w') [.ref (ad 0), .int p0, .int p1, .ref o] 3 1 6 := by
  intro sz
  refine va_MetW (cc := cL_openShoulder) (maxL := 5) (ret := some .int) (hh := [(0, 10, 13, 24), (0, 10, 17, 13), (0, 10, 21, 18)]) (by decide) rfl ?_
  intro p e s m args below meth c s₁ B hml hv
  obtain ⟨rfl, hsz, hP, hK, hD0, hZ⟩ := hv
  have hx := B.exec
  have hb := B.bytes
  have hr := B.returns
  have hts0 := atoms_spec (ws := wmH yL_openShoulder cL_openShoulder 5 (some .int) [(0, 10, 13, 24), (0, 10, 17, 13), (0, 10, 21, 18)]) B.pre
  have hts : ∀ w ∈ Wall, w.before _ s = true := fun w hw => hts0 w (List.mem_cons_of_mem _ hw)
  have hown : s.vm.findClass RL = some m.cls := findClass_of_methodNamed B.named
  have hlocks := B.notSynchronized
  subst hsz
  have hD := hD0.self (sz := s.heap.size)
  generalize hAe : va_A (wL cI cZ cJ ad o f u) s.heap.size = A at hD hZ ⊢
  have hA : ∀ q : Nat, s.heap.size ≤ q → A q := fun q h => by rw [← hAe]; exact Or.inr h
  have hS : va_S A s.heap s.heap [] := va_S.rf
  have hT := vx_table (x := yL_openShoulder) B (hts0 _ List.mem_cons_self)
  have hl := lv_entry ([.ref (ad 0), .int p0, .int p1, .ref o]) (n := 5) (Nat.le_of_ble_eq_true rfl)
  rw [lg_entry_eq]
  generalize (lg_sl ([.ref (ad 0), .int p0, .int p1, .ref o]) ++ List.replicate (5 - (lg_sl ([.ref (ad 0), .int p0, .int p1, .ref o])).length) Slot.unset).toArray = ls at hl ⊢
  replace hl : lv_has ls 5 [(0, .ref (ad 0)), (1, .int p0), (2, .int p1), (3, .ref o)] := hl
  refine w_gen (fun Q hQ => ?_)
  refine lv_aload_n hx hb dL_openShoulder_0 rfl (lv_at hl 3 rfl) ?_
  refine lv_iconst (v := 0) hx hb dL_openShoulder_1 (by decide) ?_
  refine lv_aload_n hx hb dL_openShoulder_2 rfl (lv_at hl 0 rfl) ?_
  refine lv_iload_n hx hb dL_openShoulder_3 rfl (lv_at hl 1 rfl) ?_
  refine lv_iload_n hx hb dL_openShoulder_4 rfl (lv_at hl 2 rfl) ?_
  refine cX_iVF (As := [.int p0, .int p1]) (rest := [.int 0, .ref o]) (wr := [(o, .inl (cJ, 1, .inr (.inl f)))]) ⟨hx, hb, hml, hown, hts⟩ (kx_X9_openShoulder l hl0 D cI cZ ad u p0 p1 h) (cwV 2 hts (gwV mw_690 mw_691 mw_692 mw_48 mw_693) rfl rfl rfl (by decide +kernel) ⟨Nat.le_of_ble_eq_true rfl, Nat.le_of_ble_eq_true rfl⟩) (hK.sub [0, 1] rfl) hP hD hS hA hZ [1, 2, 3, 4, 5, 6, 7, 8, 9, 10, 11, 12, 13, 14, 15, 16, 17, 18, 19, 20, 21, 22, 23, 24, 25, 26, 27, 28, 29, 30, 31, 32, 33, 34, 35] [0] rfl rfl (by decide) rfl (by decide) (by decide) (ci := 9) (q0 := 0) rfl rfl rfl hl.1 rfl (Nat.le_of_ble_eq_true rfl) dL_openShoulder_5 ⟨Nat.le_of_ble_eq_true rfl, Nat.le_of_ble_eq_true rfl⟩ (fun ce q9 H locs hP hD hS h1 h2 h3 => ?_)
  replace hP : va_P D vwCl (wL cI cZ cJ ad o f w') H := hP
  replace hD : va_D A (wL cI cZ cJ ad o f w') := hD
  refine vx_catch (name := "java/lang/IllegalStateException") hown [⟨0, 10, 13, 24⟩, ⟨0, 10, 17, 13⟩] ⟨0, 10, 21, 18⟩ [] hT (List.forall_mem_cons.mpr ⟨Or.inr ⟨by decide, "java/lang/IndexOutOfBoundsException", hts _ mw_587, hZ.2.2.2.2.2.2.2.2.2.2 ("java/lang/IllegalStateException", "java/lang/IndexOutOfBoundsException") (by decide +kernel)⟩, (List.forall_mem_cons.mpr ⟨Or.inr ⟨by decide, "java/lang/IllegalArgumentException", hts _ mw_386, hZ.2.2.2.2.2.2.2.2.2.2 ("java/lang/IllegalStateException", "java/lang/IllegalArgumentException") (by decide +kernel)⟩, (fun _ h => absurd h List.not_mem_nil)⟩)⟩) (by decide) (by decide) (hts _ mw_466) (va_Nw.use rfl (hZ.2.2.2.2.2.2.2.2.2.1 "java/lang/IllegalStateException" (by decide +kernel))) h1 h2 h3 ?_
  refine lv_astore (lv' := [(4, .ref q9), (0, .ref (ad 0)), (1, .int p0), (2, .int p1), (3, .ref o)]) hx hb dL_openShoulder_21 hl (by decide) rfl (fun ls hl => ?_)
  refine lv_iconst (v := 3) hx hb dL_openShoulder_23 (by decide) ?_
  exact cc_retC hx hb hr rfl hQ hK hP hD hS rfl dL_openShoulder_24 hlocks

def rL_stop : Room := { frames := 4, cells := 0, slots := 0, locals := 86 }
def rx_L_stop : Room := { frames := 10, cells := 1, slots := 6, locals := 174 }
set_option maxHeartbeats 4000000 in
set_option maxRecDepth 100000 in
theorem k_L_stop (l : Launch) (D : va_G) (cI cZ cJ : ClassId) (ad : Nat → Nat) (o : Nat) (f : Nat → Int64) (u : GS) (p0 : Int32) (p1 : Int32) {r : Int32} {w' : GS} (h : g_X9_stop u p0 p1 = some (.inl r, w')) : MJ l yL_stop (wmH yL_stop cL_stop 4 (some .int) [(0, 6, 9, 24), (0, 6, 12, 18)]) rL_stop D [(cI, .int), (cZ, .boolean), (cJ, .long)] (wC cI cZ ad u) (wC cI cZ ad w') [.ref (ad 0), .int p0, .int p1] 0 0 0 := by
  intro sz
  refine va_MetW (cc := cL_stop) (maxL := 4) (ret := some .int) (hh := [(0, 6, 9, 24), (0, 6, 12, 18)]) (by decide) rfl ?_
  intro p e s m args below meth c s₁ B hml hv
  obtain ⟨rfl, hsz, hP, hK, hD0, hZ⟩ := hv
  have hx := B.exec
  have hb := B.bytes
  have hr := B.returns
  have hts0 := atoms_spec (ws := wmH yL_stop cL_stop 4 (some .int) [(0, 6, 9, 24), (0, 6, 12, 18)]) B.pre
  have hts : ∀ w ∈ Wall, w.before _ s = true := fun w hw => hts0 w (List.mem_cons_of_mem _ hw)
  have hown : s.vm.findClass RL = some m.cls := findClass_of_methodNamed B.named
  have hlocks := B.notSynchronized
  subst hsz
  have hD := hD0.self (sz := s.heap.size)
  generalize hAe : va_A (wC cI cZ ad u) s.heap.size = A at hD hZ ⊢
  have hA : ∀ q : Nat, s.heap.size ≤ q → A q := fun q h => by rw [← hAe]; exact Or.inr h
  have hS : va_S A s.heap s.heap [] := va_S.rf
  have hl := lv_entry ([.ref (ad 0), .int p0, .int p1]) (n := 4) (Nat.le_of_ble_eq_true rfl)
  rw [lg_entry_eq]
  generalize (lg_sl ([.ref (ad 0), .int p0, .int p1]) ++ List.replicate (4 - (lg_sl ([.ref (ad 0), .int p0, .int p1])).length) Slot.unset).toArray = ls at hl ⊢
  replace hl : lv_has ls 4 [(0, .ref (ad 0)), (1, .int p0), (2, .int p1)] := hl
  refine w_gen (fun Q hQ => ?_)
  refine lv_aload_n hx hb dL_stop_0 rfl (lv_at hl 0 rfl) ?_
  refine lv_iload_n hx hb dL_stop_1 rfl (lv_at hl 1 rfl) ?_
  refine lv_iload_n hx hb dL_stop_2 rfl (lv_at hl 2 rfl) ?_
  refine cc_vVF (As := [.int p0, .int p1]) (rest := []) (wr := []) ⟨hx, hb, hml, hown, hts⟩ (k_X9_stop l D cI cZ ad u p0 p1 h) (cwV 2 hts (gwV mw_706 mw_707 mw_708 mw_48 mw_709) rfl rfl rfl (by decide +kernel) ⟨Nat.le_of_ble_eq_true rfl, Nat.le_of_ble_eq_true rfl⟩) (hK.sub [0, 1] rfl) hP hD hS hA hZ [0, 1, 2, 3, 4, 5, 6, 7, 8, 9, 10, 11, 12, 13, 14, 15, 16, 17, 18, 19, 20, 21, 22, 23, 24, 25, 26, 27, 28, 29, 30, 31, 32, 33, 34] [] rfl rfl (by decide) rfl (by decide) (by decide) (ci := 9) (q0 := 0) rfl rfl rfl hl.1 rfl (Nat.le_of_ble_eq_true rfl) dL_stop_3 ⟨Nat.zero_le _, Nat.zero_le _⟩ (fun H locs hP hD hS => ?_)
  replace hP : va_P D vwCl (wC cI cZ ad w') H := hP
  replace hD : va_D A (wC cI cZ ad w') := hD
  refine lv_goto (tgt := 15) hx hb dL_stop_6 (by decide) ?_
  refine lv_iconst (v := 0) hx hb dL_stop_15 (by decide) ?_
  exact cc_retC hx hb hr rfl hQ hK hP hD hS rfl dL_stop_16 hlocks
set_option maxHeartbeats 4000000 in
set_option maxRecDepth 100000 in
theorem kx1_L_stop (l : Launch) (hl0 : l.stackTraces = false) (D : va_G) (cI cZ cJ : ClassId) (ad : Nat → Nat) (o : Nat) (f : Nat → Int64) (u : GS) (p0 : Int32) (p1 : Int32) {w' : GS} (h : g_X9_stop u p0 p1 = some (.inr "java/lang/IndexOutOfBoundsException", w')) : MJ l yL_stop (wmH yL_stop cL_stop 4 (some .int) [(0, 6, 9, 24), (0, 6, 12, 18)]) rx_L_stop D [(cI, .int), (cZ, .boolean), (cJ, .long)] (wC cI cZ ad u) (wC cI cZ ad w') [.ref (ad 0), .int p0, .int p1] 1 1 6 := by
  intro sz
  refine va_MetW (cc := cL_stop) (maxL := 4) (ret := some .int) (hh := [(0, 6, 9, 24), (0, 6, 12, 18)]) (by decide) rfl ?_
  intro p e s m args below meth c s₁ B hml hv
  obtain ⟨rfl, hsz, hP, hK, hD0, hZ⟩ := hv
  have hx := B.exec
  have hb := B.bytes
  have hr := B.returns
  have hts0 := atoms_spec (ws := wmH yL_stop cL_stop 4 (some .int) [(0, 6, 9, 24), (0, 6, 12, 18)]) B.pre
  have hts : ∀ w ∈ Wall, w.before _ s = true := fun w hw => hts0 w (List.mem_cons_of_mem _ hw)
  have hown : s.vm.findClass RL = some m.cls := findClass_of_methodNamed B.named
  have hlocks := B.notSynchronized
  subst hsz
  have hD := hD0.self (sz := s.heap.size)
  generalize hAe : va_A (wC cI cZ ad u) s.heap.size = A at hD hZ ⊢
  have hA : ∀ q : Nat, s.heap.size ≤ q → A q := fun q h => by rw [← hAe]; exact Or.inr h
  have hS : va_S A s.heap s.heap [] := va_S.rf
  have hT := vx_table (x := yL_stop) B (hts0 _ List.mem_cons_self)
  have hl := lv_entry ([.ref (ad 0), .int p0, .int p1]) (n := 4) (Nat.le_of_ble_eq_true rfl)
  rw [lg_entry_eq]
  generalize (lg_sl ([.ref (ad 0), .int p0, .int p1]) ++ List.replicate (4 - (lg_sl ([.ref (ad 0), .int p0, .int p1])).length) Slot.unset).toArray = ls at hl ⊢
  replace hl : lv_has ls 4 [(0, .ref (ad 0)), (1, .int p0), (2, .int p1)] := hl
  refine w_gen (fun Q hQ => ?_)
  refine lv_aload_n hx hb dL_stop_0 rfl (lv_at hl 0 rfl) ?_
  refine lv_iload_n hx hb dL_stop_1 rfl (lv_at hl 1 rfl) ?_
  refine lv_iload_n hx hb dL_stop_2 rfl (lv_at hl 2 rfl) ?_
  refine cX_vVF (As := [.int p0, .int p1]) (rest := []) (wr := []) ⟨hx, hb, hml, hown, hts⟩ (kx_X9_stop l hl0 D cI cZ ad u p0 p1 h) (cwV 2 hts (gwV mw_706 mw_707 mw_708 mw_48 mw_709) rfl rfl rfl (by decide +kernel) ⟨Nat.le_of_ble_eq_true rfl, Nat.le_of_ble_eq_true rfl⟩) (hK.sub [0, 1] rfl) hP hD hS hA hZ [0, 1, 2, 3, 4, 5, 6, 7, 8, 9, 10, 11, 12, 13, 14, 15, 16, 17, 18, 19, 20, 21, 22, 23, 24, 25, 26, 27, 28, 29, 30, 31, 32, 33, 34] [] rfl rfl (by decide) rfl (by decide) (by decide) (ci := 9) (q0 := 0) rfl rfl rfl hl.1 rfl (Nat.le_of_ble_eq_true rfl) dL_stop_3 ⟨Nat.le_of_ble_eq_true rfl, Nat.le_of_ble_eq_true rfl⟩ (fun ce q9 H locs hP hD hS h1 h2 h3 => ?_)
  replace hP : va_P D vwCl (wC cI cZ ad w') H := hP
  replace hD : va_D A (wC cI cZ ad w') := hD
  refine vx_catch (name := "java/lang/IndexOutOfBoundsException") hown [] ⟨0, 6, 9, 24⟩ [⟨0, 6, 12, 18⟩] hT (fun _ h => absurd h List.not_mem_nil) (by decide) (by decide) (hts _ mw_587) (va_Nw.use rfl (hZ.2.2.2.2.2.2.2.2.2.1 "java/lang/IndexOutOfBoundsException" (by decide +kernel))) h1 h2 h3 ?_
  refine lv_astore_n (lv' := [(3, .ref q9), (0, .ref (ad 0)), (1, .int p0), (2, .int p1)]) hx hb dL_stop_9 rfl hl (by decide) rfl (fun ls hl => ?_)
  refine lv_iconst (v := 1) hx hb dL_stop_10 (by decide) ?_
  exact cc_retC hx hb hr rfl hQ hK hP hD hS rfl dL_stop_11 hlocks
set_option maxHeartbeats 4000000 in
set_option maxRecDepth 100000 in
theorem kx2_L_stop (l : Launch) (hl0 : l.stackTraces = false) (D : va_G) (cI cZ cJ : ClassId) (ad : Nat → Nat) (o : Nat) (f : Nat → Int64) (u : GS) (p0 : Int32) (p1 : Int32) {w' : GS} (h : g_X9_stop u p0 p1 = some (.inr "java/lang/IllegalStateException", w')) : MJ l yL_stop (wmH yL_stop cL_stop 4 (some .int) [(0, 6, 9, 24), (0, 6, 12, 18)]) rx_L_stop D [(cI, .int), (cZ, .boolean), (cJ, .long)] (wC cI cZ ad u) (wC cI cZ ad w') [.ref (ad 0), .int p0, .int p1] 2 1 6 := by
  intro sz
  refine va_MetW (cc := cL_stop) (maxL := 4) (ret := some .int) (hh := [(0, 6, 9, 24), (0, 6, 12, 18)]) (by decide) rfl ?_
  intro p e s m args below meth c s₁ B hml hv
  obtain ⟨rfl, hsz, hP, hK, hD0, hZ⟩ := hv
  have hx := B.exec
  have hb := B.bytes
  have hr := B.returns
  have hts0 := atoms_spec (ws := wmH yL_stop cL_stop 4 (some .int) [(0, 6, 9, 24), (0, 6, 12, 18)]) B.pre
  have hts : ∀ w ∈ Wall, w.before _ s = true := fun w hw => hts0 w (List.mem_cons_of_mem _ hw)
  have hown : s.vm.findClass RL = some m.cls := findClass_of_methodNamed B.named
  have hlocks := B.notSynchronized
  subst hsz
  have hD := hD0.self (sz := s.heap.size)
  generalize hAe : va_A (wC cI cZ ad u) s.heap.size = A at hD hZ ⊢
  have hA : ∀ q : Nat, s.heap.size ≤ q → A q := fun q h => by rw [← hAe]; exact Or.inr h
  have hS : va_S A s.heap s.heap [] := va_S.rf
  have hT := vx_table (x := yL_stop) B (hts0 _ List.mem_cons_self)
  have hl := lv_entry ([.ref (ad 0), .int p0, .int p1]) (n := 4) (Nat.le_of_ble_eq_true rfl)
  rw [lg_entry_eq]
  generalize (lg_sl ([.ref (ad 0), .int p0, .int p1]) ++ List.replicate (4 - (lg_sl ([.ref (ad 0), .int p0, .int p1])).length) Slot.unset).toArray = ls at hl ⊢
  replace hl : lv_has ls 4 [(0, .ref (ad 0)), (1, .int p0), (2, .int p1)] := hl
  refine w_gen (fun Q hQ => ?_)
  refine lv_aload_n hx hb dL_stop_0 rfl (lv_at hl 0 rfl) ?_
  refine lv_iload_n hx hb dL_stop_1 rfl (lv_at hl 1 rfl) ?_
  refine lv_iload_n hx hb dL_stop_2 rfl (lv_at hl 2 rfl) ?_
  refine cX_vVF (As := [.int p0, .int p1]) (rest := []) (wr := []) ⟨hx, hb, hml, hown, hts⟩ (kx_X9_stop l hl0 D cI cZ ad u p0 p1 h) (cwV 2 hts (gwV mw_706 mw_707 mw_708 mw_48 mw_709) rfl rfl rfl (by decide +kernel) ⟨Nat.le_of_ble_eq_true rfl, Nat.le_of_ble_eq_true rfl⟩) (hK.sub [0, 1] rfl) hP hD hS hA hZ [0, 1, 2, 3, 4, 5, 6, 7, 8, 9, 10, 11, 12, 13, 14, 15, 16, 17, 18, 19, 20, 21, 22, 23, 24, 25, 26, 27, 28, 29, 30, 31, 32, 33, 34] [] rfl rfl (by decide) rfl (by decide) (by decide) (ci := 9) (q0 := 0) rfl rfl rfl hl.1 rfl (Nat.le_of_ble_eq_true rfl) dL_stop_3 ⟨Nat.le_of_ble_eq_true rfl, Nat.le_of_ble_eq_true rfl⟩ (fun ce q9 H locs hP hD hS h1 h2 h3 => ?_)
  replace hP : va_P D vwCl (wC cI cZ ad w') H := hP
  replace hD : va_D A (wC cI cZ ad w') := hD
  refine vx_catch (name := "java/lang/IllegalStateException") hown [⟨0, 6, 9, 24⟩] ⟨0, 6, 12, 18⟩ [] hT (List.forall_mem_cons.mpr ⟨Or.inr ⟨by decide, "java/lang/IndexOutOfBoundsException", hts _ mw_587, hZ.2.2.2.2.2.2.2.2.2.2 ("java/lang/IllegalStateException", "java/lang/IndexOutOfBoundsException") (by decide +kernel)⟩, (fun _ h => absurd h List.not_mem_nil)⟩) (by decide) (by decide) (hts _ mw_466) (va_Nw.use rfl (hZ.2.2.2.2.2.2.2.2.2.1 "java/lang/IllegalStateException" (by decide +kernel))) h1 h2 h3 ?_
  refine lv_astore_n (lv' := [(3, .ref q9), (0, .ref (ad 0)), (1, .int p0), (2, .int p1)]) hx hb dL_stop_12 rfl hl (by decide) rfl (fun ls hl => ?_)
  refine lv_iconst (v := 2) hx hb dL_stop_13 (by decide) ?_
  exact cc_retC hx hb hr rfl hQ hK hP hD hS rfl dL_stop_14 hlocks

def rL_report : Room := { frames := 4, cells := 0, slots := 0, locals := 86 }
def rx_L_report : Room := { frames := 10, cells := 1, slots := 6, locals := 174 }
set_option maxHeartbeats 4000000 in
set_option maxRecDepth 100000 in
theorem k_L_report (l : Launch) (D : va_G) (cI cZ cJ : ClassId) (ad : Nat → Nat) (o : Nat) (f : Nat → Int64) (u : GS) (p0 : Int32) (p1 : Int32) {r : Int32} {w' : GS} (h : g_X9_report u p0 p1 = some (.inl r, w')) : MJ l yL_report (wmH yL_report cL_report 5 (some .int) [(0, 10, 13, 24), (0, 10, 17, 18)]) rL_report D [(cI, .int), (cZ, .boolean), (cJ, .long)] (wL cI cZ cJ ad o f u) (wL cI cZ cJ ad o (vp_updL f (0 : Int32).toNatClampNeg r.toInt64) w') [.ref (ad 0), .int p0, .int p1, .ref o] 0 0 0 := by
  intro sz
  refine va_MetW (cc := cL_report) (maxL := 5) (ret := some .int) (hh := [(0, 10, 13, 24), (0, 10, 17, 18)]) (by decide) rfl ?_
  intro p e s m args below meth c s₁ B hml hv
  obtain ⟨rfl, hsz, hP, hK, hD0, hZ⟩ := hv
  have hx := B.exec
  have hb := B.bytes
  have hr := B.returns
  have hts0 := atoms_spec (ws := wmH yL_report cL_report 5 (some .int) [(0, 10, 13, 24), (0, 10, 17, 18)]) B.pre
  have hts : ∀ w ∈ Wall, w.before _ s = true := fun w hw => hts0 w (List.mem_cons_of_mem _ hw)
  have hown : s.vm.findClass RL = some m.cls := findClass_of_methodNamed B.named
  have hlocks := B.notSynchronized
  subst hsz
  have hD := hD0.self (sz := s.heap.size)
  generalize hAe : va_A (wL cI cZ cJ ad o f u) s.heap.size = A at hD hZ ⊢
  have hA : ∀ q : Nat, s.heap.size ≤ q → A q := fun q h => by rw [← hAe]; exact Or.inr h
  have hS : va_S A s.heap s.heap [] := va_S.rf
  have hl := lv_entry ([.ref (ad 0), .int p0, .int p1, .ref o]) (n := 5) (Nat.le_of_ble_eq_true rfl)
  rw [lg_entry_eq]
  generalize (lg_sl ([.ref (ad 0), .int p0, .int p1, .ref o]) ++ List.replicate (5 - (lg_sl ([.ref (ad 0), .int p0, .int p1, .ref o])).length) Slot.unset).toArray = ls at hl ⊢
  replace hl : lv_has ls 5 [(0, .ref (ad 0)), (1, .int p0), (2, .int p1), (3, .ref o)] := hl
  refine w_gen (fun Q hQ => ?_)
  refine lv_aload_n hx hb dL_report_0 rfl (lv_at hl 3 rfl) ?_
  refine lv_iconst (v := 0) hx hb dL_report_1 (by decide) ?_
  refine lv_aload_n hx hb dL_report_2 rfl (lv_at hl 0 rfl) ?_
  refine lv_iload_n hx hb dL_report_3 rfl (lv_at hl 1 rfl) ?_
  refine lv_iload_n hx hb dL_report_4 rfl (lv_at hl 2 rfl) ?_
  refine cc_iVF (As := [.int p0, .int p1]) (rest := [.int 0, .ref o]) (wr := [(o, .inl (cJ, 1, .inr (.inl f)))]) ⟨hx, hb, hml, hown, hts⟩ (k_X9_report l D cI cZ ad u p0 p1 h) (cwV 2 hts (gwV mw_713 mw_714 mw_715 mw_48 mw_716) rfl rfl rfl (by decide +kernel) ⟨Nat.le_of_ble_eq_true rfl, Nat.le_of_ble_eq_true rfl⟩) (hK.sub [0, 1] rfl) hP hD hS hA hZ [1, 2, 3, 4, 5, 6, 7, 8, 9, 10, 11, 12, 13, 14, 15, 16, 17, 18, 19, 20, 21, 22, 23, 24, 25, 26, 27, 28, 29, 30, 31, 32, 33, 34, 35] [0] rfl rfl (by decide) rfl (by decide) (by decide) (ci := 9) (q0 := 0) rfl rfl rfl hl.1 rfl (Nat.le_of_ble_eq_true rfl) dL_report_5 ⟨Nat.zero_le _, Nat.zero_le _⟩ (fun H locs hP hD hS => ?_)
  replace hP : va_P D vwCl (wL cI cZ cJ ad o f w') H := hP
  replace hD : va_D A (wL cI cZ cJ ad o f w') := hD
  refine lv_i2l (v := r.toInt64) hx hb dL_report_8 rfl ?_
  refine va_last (D := D) hx hb hK hP hD hS 0 2 rfl rfl (by unfold vp_in; decide) dL_report_9 (fun H locs hP hD hS => ?_)
  replace hP : va_P D vwCl (wL cI cZ cJ ad o (vp_updL f (0 : Int32).toNatClampNeg r.toInt64) w') H := hP
  replace hD : va_D A (wL cI cZ cJ ad o (vp_updL f (0 : Int32).toNatClampNeg r.toInt64) w') := hD
  refine lv_goto (tgt := 21) hx hb dL_report_10 (by decide) ?_
  refine lv_iconst (v := 0) hx hb dL_report_21 (by decide) ?_
  exact cc_retC hx hb hr rfl hQ hK hP hD hS rfl dL_report_22 hlocks
set_option maxHeartbeats 4000000 in
set_option maxRecDepth 100000 in
theorem kx1_L_report (l : Launch) (hl0 : l.stackTraces = false) (D : va_G) (cI cZ cJ : ClassId) (ad : Nat → Nat) (o : Nat) (f : Nat → Int64) (u : GS) (p0 : Int32) (p1 : Int32) {w' : GS} (h : g_X9_report u p0 p1 = some (.inr "java/lang/IndexOutOfBoundsException", w')) : MJ l yL_report (wmH yL_report cL_report 5 (some .int) [(0, 10, 13, 24), (0, 10, 17, 18)]) rx_L_report D [(cI, .int), (cZ, .boolean), (cJ, .long)] (wL cI cZ cJ ad o f u) (wL cI cZ cJ ad o f w') [.ref (ad 0), .int p0, .int p1, .ref o] 1 1 6 := by
  intro sz
  refine va_MetW (cc := cL_report) (maxL := 5) (ret := some .int) (hh := [(0, 10, 13, 24), (0, 10, 17, 18)]) (by decide) rfl ?_
  intro p e s m args below meth c s₁ B hml hv
  obtain ⟨rfl, hsz, hP, hK, hD0, hZ⟩ := hv
  have hx := B.exec
  have hb := B.bytes
  have hr := B.returns
  have hts0 := atoms_spec (ws := wmH yL_report cL_report 5 (some .int) [(0, 10, 13, 24), (0, 10, 17, 18)]) B.pre
  have hts : ∀ w ∈ Wall, w.before _ s = true := fun w hw => hts0 w (List.mem_cons_of_mem _ hw)
  have hown : s.vm.findClass RL = some m.cls := findClass_of_methodNamed B.named
  have hlocks := B.notSynchronized
  subst hsz
  have hD := hD0.self (sz := s.heap.size)
  generalize hAe : va_A (wL cI cZ cJ ad o f u) s.heap.size = A at hD hZ ⊢
  have hA : ∀ q : Nat, s.heap.size ≤ q → A q := fun q h => by rw [← hAe]; exact Or.inr h
  have hS : va_S A s.heap s.heap [] := va_S.rf
  have hT := vx_table (x := yL_report) B (hts0 _ List.mem_cons_self)
  have hl := lv_entry ([.ref (ad 0), .int p0, .int p1, .ref o]) (n := 5) (Nat.le_of_ble_eq_true rfl)
  rw [lg_entry_eq]
  generalize (lg_sl ([.ref (ad 0), .int p0, .int p1, .ref o]) ++ List.replicate (5 - (lg_sl ([.ref (ad 0), .int p0, .int p1, .ref o])).length) Slot.unset).toArray = ls at hl ⊢
  replace hl : lv_has ls 5 [(0, .ref (ad 0)), (1, .int p0), (2, .int p1), (3, .ref o)] := hl
  refine w_gen (fun Q hQ => ?_)
  refine lv_aload_n hx hb dL_report_0 rfl (lv_at hl 3 rfl) ?_
  refine lv_iconst (v := 0) hx hb dL_report_1 (by decide) ?_
  refine lv_aload_n hx hb dL_report_2 rfl (lv_at hl 0 rfl) ?_
  refine lv_iload_n hx hb dL_report_3 rfl (lv_at hl 1 rfl) ?_
  refine lv_iload_n hx hb dL_report_4 rfl (lv_at hl 2 rfl) ?_
  refine cX_iVF (As := [.int p0, .int p1]) (rest := [.int 0, .ref o]) (wr := [(o, .inl (cJ, 1, .inr (.inl f)))]) ⟨hx, hb, hml, hown, hts⟩ (kx_X9_report l hl0 D cI cZ ad u p0 p1 h) (cwV 2 hts (gwV mw_713 mw_714 mw_715 mw_48 mw_716) rfl rfl rfl (by decide +kernel) ⟨Nat.le_of_ble_eq_true rfl, Nat.le_of_ble_eq_true rfl⟩) (hK.sub [0, 1] rfl) hP hD hS hA hZ [1, 2, 3, 4, 5, 6, 7, 8, 9, 10, 11, 12, 13, 14, 15, 16, 17, 18, 19, 20, 21, 22, 23, 24, 25, 26, 27, 28, 29, 30, 31, 32, 33, 34, 35] [0] rfl rfl (by decide) rfl (by decide) (by decide) (ci := 9) (q0 := 0) rfl rfl rfl hl.1 rfl (Nat.le_of_ble_eq_true rfl) dL_report_5 ⟨Nat.le_of_ble_eq_true rfl, Nat.le_of_ble_eq_true rfl⟩ (fun ce q9 H locs hP hD hS h1 h2 h3 => ?_)
  replace hP : va_P D vwCl (wL cI cZ cJ ad o f w') H := hP
  replace hD : va_D A (wL cI cZ cJ ad o f w') := hD
  refine vx_catch (name := "java/lang/IndexOutOfBoundsException") hown [] ⟨0, 10, 13, 24⟩ [⟨0, 10, 17, 18⟩] hT (fun _ h => absurd h List.not_mem_nil) (by decide) (by decide) (hts _ mw_587) (va_Nw.use rfl (hZ.2.2.2.2.2.2.2.2.2.1 "java/lang/IndexOutOfBoundsException" (by decide +kernel))) h1 h2 h3 ?_
  refine lv_astore (lv' := [(4, .ref q9), (0, .ref (ad 0)), (1, .int p0), (2, .int p1), (3, .ref o)]) hx hb dL_report_13 hl (by decide) rfl (fun ls hl => ?_)
  refine lv_iconst (v := 1) hx hb dL_report_15 (by decide) ?_
  exact cc_retC hx hb hr rfl hQ hK hP hD hS rfl dL_report_16 hlocks
set_option maxHeartbeats 4000000 in
set_option maxRecDepth 100000 in
theorem kx2_L_report (l : Launch) (hl0 : l.stackTraces = false) (D : va_G) (cI cZ cJ : ClassId) (ad : Nat → Nat) (o : Nat) (f : Nat → Int64) (u : GS) (p0 : Int32) (p1 : Int32) {w' : GS} (h : g_X9_report u p0 p1 = some (.inr "java/lang/IllegalStateException", w')) : MJ l yL_report (wmH yL_report cL_report 5 (some .int) [(0, 10, 13, 24), (0, 10, 17, 18)]) rx_L_report D [(cI, .int), (cZ, .boolean), (cJ, .long)] (wL cI cZ cJ ad o f u) (wL cI cZ cJ ad o f w') [.ref (ad 0), .int p0, .int p1, .ref o] 2 1 6 := by
  intro sz
  refine va_MetW (cc := cL_report) (maxL := 5) (ret := some .int) (hh := [(0, 10, 13, 24), (0, 10, 17, 18)]) (by decide) rfl ?_
  intro p e s m args below meth c s₁ B hml hv
  obtain ⟨rfl, hsz, hP, hK, hD0, hZ⟩ := hv
  have hx := B.exec
  have hb := B.bytes
  have hr := B.returns
  have hts0 := atoms_spec (ws := wmH yL_report cL_report 5 (some .int) [(0, 10, 13, 24), (0, 10, 17, 18)]) B.pre
  have hts : ∀ w ∈ Wall, w.before _ s = true := fun w hw => hts0 w (List.mem_cons_of_mem _ hw)
  have hown : s.vm.findClass RL = some m.cls := findClass_of_methodNamed B.named
  have hlocks := B.notSynchronized
  subst hsz
  have hD := hD0.self (sz := s.heap.size)
  generalize hAe : va_A (wL cI cZ cJ ad o f u) s.heap.size = A at hD hZ ⊢
  have hA : ∀ q : Nat, s.heap.size ≤ q → A q := fun q h => by rw [← hAe]; exact Or.inr h
  have hS : va_S A s.heap s.heap [] := va_S.rf
  have hT := vx_table (x := yL_report) B (hts0 _ List.mem_cons_self)
  have hl := lv_entry ([.ref (ad 0), .int p0, .int p1, .ref o]) (n := 5) (Nat.le_of_ble_eq_true rfl)
  rw [lg_entry_eq]
  generalize (lg_sl ([.ref (ad 0), .int p0, .int p1, .ref o]) ++ List.replicate (5 - (lg_sl ([.ref (ad 0), .int p0, .int p1, .ref o])).length) Slot.unset).toArray = ls at hl ⊢
  replace hl : lv_has ls 5 [(0, .ref (ad 0)), (1, .int p0), (2, .int p1), (3, .ref o)] := hl
  refine w_gen (fun Q hQ => ?_)
  refine lv_aload_n hx hb dL_report_0 rfl (lv_at hl 3 rfl) ?_
  refine lv_iconst (v := 0) hx hb dL_report_1 (by decide) ?_
  refine lv_aload_n hx hb dL_report_2 rfl (lv_at hl 0 rfl) ?_
  refine lv_iload_n hx hb dL_report_3 rfl (lv_at hl 1 rfl) ?_
  refine lv_iload_n hx hb dL_report_4 rfl (lv_at hl 2 rfl) ?_
  refine cX_iVF (As := [.int p0, .int p1]) (rest := [.int 0, .ref o]) (wr := [(o, .inl (cJ, 1, .inr (.inl f)))]) ⟨hx, hb, hml, hown, hts⟩ (kx_X9_report l hl0 D cI cZ ad u p0 p1 h) (cwV 2 hts (gwV mw_713 mw_714 mw_715 mw_48 mw_716) rfl rfl rfl (by decide +kernel) ⟨Nat.le_of_ble_eq_true rfl, Nat.le_of_ble_eq_true rfl⟩) (hK.sub [0, 1] rfl) hP hD hS hA hZ [1, 2, 3, 4, 5, 6, 7, 8, 9, 10, 11, 12, 13, 14, 15, 16, 17, 18, 19, 20, 21, 22, 23, 24, 25, 26, 27, 28, 29, 30, 31, 32, 33, 34, 35] [0] rfl rfl (by decide) rfl (by decide) (by decide) (ci := 9) (q0 := 0) rfl rfl rfl hl.1 rfl (Nat.le_of_ble_eq_true rfl) dL_report_5 ⟨Nat.le_of_ble_eq_true rfl, Nat.le_of_ble_eq_true rfl⟩ (fun ce q9 H locs hP hD hS h1 h2 h3 => ?_)
  replace hP : va_P D vwCl (wL cI cZ cJ ad o f w') H := hP
  replace hD : va_D A (wL cI cZ cJ ad o f w') := hD
  refine vx_catch (name := "java/lang/IllegalStateException") hown [⟨0, 10, 13, 24⟩] ⟨0, 10, 17, 18⟩ [] hT (List.forall_mem_cons.mpr ⟨Or.inr ⟨by decide, "java/lang/IndexOutOfBoundsException", hts _ mw_587, hZ.2.2.2.2.2.2.2.2.2.2 ("java/lang/IllegalStateException", "java/lang/IndexOutOfBoundsException") (by decide +kernel)⟩, (fun _ h => absurd h List.not_mem_nil)⟩) (by decide) (by decide) (hts _ mw_466) (va_Nw.use rfl (hZ.2.2.2.2.2.2.2.2.2.1 "java/lang/IllegalStateException" (by decide +kernel))) h1 h2 h3 ?_
  refine lv_astore (lv' := [(4, .ref q9), (0, .ref (ad 0)), (1, .int p0), (2, .int p1), (3, .ref o)]) hx hb dL_report_17 hl (by decide) rfl (fun ls hl => ?_)
  refine lv_iconst (v := 2) hx hb dL_report_19 (by decide) ?_
  exact cc_retC hx hb hr rfl hQ hK hP hD hS rfl dL_report_20 hlocks

def rL_confirm : Room := { frames := 3, cells := 0, slots := 0, locals := 65 }
def rx_L_confirm : Room := { frames := 8, cells := 1, slots := 6, locals := 132 }
set_option maxHeartbeats 4000000 in
set_option maxRecDepth 100000 in
theorem k_L_confirm (l : Launch) (D : va_G) (cI cZ cJ : ClassId) (ad : Nat → Nat) (o : Nat) (f : Nat → Int64) (u : GS) (p0 : Int32) {r : Int32} {w' : GS} (h : g_X9_confirm u p0 = some (.inl r, w')) : MJ l yL_confirm (wmH yL_confirm cL_confirm 4 (some .int) [(0, 9, 12, 24), (0, 9, 15, 18)]) rL_confirm D [(cI, .int), (cZ, .boolean), (cJ, .long)] (wL cI cZ cJ ad o f u) (wL cI cZ cJ ad o (vp_updL f (0 : Int32).toNatClampNeg r.toInt64) w') [.ref (ad 0), .int p0, .ref o] 0 0 0 := by
  intro sz
  refine va_MetW (cc := cL_confirm) (maxL := 4) (ret := some .int) (hh := [(0, 9, 12, 24), (0, 9, 15, 18)]) (by decide) rfl ?_
  intro p e s m args below meth c s₁ B hml hv
  obtain ⟨rfl, hsz, hP, hK, hD0, hZ⟩ := hv
  have hx := B.exec
  have hb := B.bytes
  have hr := B.returns
  have hts0 := atoms_spec (ws := wmH yL_confirm cL_confirm 4 (some .int) [(0, 9, 12, 24), (0, 9, 15, 18)]) B.pre
  have hts : ∀ w ∈ Wall, w.before _ s = true := fun w hw => hts0 w (List.mem_cons_of_mem _ hw)
  have hown : s.vm.findClass RL = some m.cls := findClass_of_methodNamed B.named
  have hlocks := B.notSynchronized
  subst hsz
  have hD := hD0.self (sz := s.heap.size)
  generalize hAe : va_A (wL cI cZ cJ ad o f u) s.heap.size = A at hD hZ ⊢
  have hA : ∀ q : Nat, s.heap.size ≤ q → A q := fun q h => by rw [← hAe]; exact Or.inr h
  have hS : va_S A s.heap s.heap [] := va_S.rf
  have hl := lv_entry ([.ref (ad 0), .int p0, .ref o]) (n := 4) (Nat.le_of_ble_eq_true rfl)
  rw [lg_entry_eq]
  generalize (lg_sl ([.ref (ad 0), .int p0, .ref o]) ++ List.replicate (4 - (lg_sl ([.ref (ad 0), .int p0, .ref o])).length) Slot.unset).toArray = ls at hl ⊢
  replace hl : lv_has ls 4 [(0, .ref (ad 0)), (1, .int p0), (2, .ref o)] := hl
  refine w_gen (fun Q hQ => ?_)
  refine lv_aload_n hx hb dL_confirm_0 rfl (lv_at hl 2 rfl) ?_
  refine lv_iconst (v := 0) hx hb dL_confirm_1 (by decide) ?_
  refine lv_aload_n hx hb dL_confirm_2 rfl (lv_at hl 0 rfl) ?_
  refine lv_iload_n hx hb dL_confirm_3 rfl (lv_at hl 1 rfl) ?_
  refine cc_iVF (As := [.int p0]) (rest := [.int 0, .ref o]) (wr := [(o, .inl (cJ, 1, .inr (.inl f)))]) ⟨hx, hb, hml, hown, hts⟩ (k_X9_confirm l D cI cZ ad u p0 h) (cwV 1 hts (gwV mw_728 mw_729 mw_730 mw_48 mw_731) rfl rfl rfl (by decide +kernel) ⟨Nat.le_of_ble_eq_true rfl, Nat.le_of_ble_eq_true rfl⟩) (hK.sub [0, 1] rfl) hP hD hS hA hZ [1, 2, 3, 4, 5, 6, 7, 8, 9, 10, 11, 12, 13, 14, 15, 16, 17, 18, 19, 20, 21, 22, 23, 24, 25, 26, 27, 28, 29, 30, 31, 32, 33, 34, 35] [0] rfl rfl (by decide) rfl (by decide) (by decide) (ci := 9) (q0 := 0) rfl rfl rfl hl.1 rfl (Nat.le_of_ble_eq_true rfl) dL_confirm_4 ⟨Nat.zero_le _, Nat.zero_le _⟩ (fun H locs hP hD hS => ?_)
  replace hP : va_P D vwCl (wL cI cZ cJ ad o f w') H := hP
  replace hD : va_D A (wL cI cZ cJ ad o f w') := hD
  refine lv_i2l (v := r.toInt64) hx hb dL_confirm_7 rfl ?_
  refine va_last (D := D) hx hb hK hP hD hS 0 2 rfl rfl (by unfold vp_in; decide) dL_confirm_8 (fun H locs hP hD hS => ?_)
  replace hP : va_P D vwCl (wL cI cZ cJ ad o (vp_updL f (0 : Int32).toNatClampNeg r.toInt64) w') H := hP
  replace hD : va_D A (wL cI cZ cJ ad o (vp_updL f (0 : Int32).toNatClampNeg r.toInt64) w') := hD
  refine lv_goto (tgt := 18) hx hb dL_confirm_9 (by decide) ?_
  refine lv_iconst (v := 0) hx hb dL_confirm_18 (by decide) ?_
  exact cc_retC hx hb hr rfl hQ hK hP hD hS rfl dL_confirm_19 hlocks
set_option maxHeartbeats 4000000 in
set_option maxRecDepth 100000 in
theorem kx1_L_confirm (l : Launch) (hl0 : l.stackTraces = false) (D : va_G) (cI cZ cJ : ClassId) (ad : Nat → Nat) (o : Nat) (f : Nat → Int64) (u : GS) (p0 : Int32) {w' : GS} (h : g_X9_confirm u p0 = some (.inr "java/lang/IndexOutOfBoundsException", w')) : MJ l yL_confirm (wmH yL_confirm cL_confirm 4 (some .int) [(0, 9, 12, 24), (0, 9, 15, 18)]) rx_L_confirm D [(cI, .int), (cZ, .boolean), (cJ, .long)] (wL cI cZ cJ ad o f u) (wL cI cZ cJ ad o f w') [.ref (ad 0), .int p0, .ref o] 1 1 6 := by
  intro sz
  refine va_MetW (cc := cL_confirm) (maxL := 4) (ret := some .int) (hh := [(0, 9, 12, 24), (0, 9, 15, 18)]) (by decide) rfl ?_
  intro p e s m args below meth c s₁ B hml hv
  obtain ⟨rfl, hsz, hP, hK, hD0, hZ⟩ := hv
  have hx := B.exec
  have hb := B.bytes
  have hr := B.returns
  have hts0 := atoms_spec (ws := wmH yL_confirm cL_confirm 4 (some .int) [(0, 9, 12, 24), (0, 9, 15, 18)]) B.pre
  have hts : ∀ w ∈ Wall, w.before _ s = true := fun w hw => hts0 w (List.mem_cons_of_mem _ hw)
  have hown : s.vm.findClass RL = some m.cls := findClass_of_methodNamed B.named
  have hlocks := B.notSynchronized
  subst hsz
  have hD := hD0.self (sz := s.heap.size)
  generalize hAe : va_A (wL cI cZ cJ ad o f u) s.heap.size = A at hD hZ ⊢
  have hA : ∀ q : Nat, s.heap.size ≤ q → A q := fun q h => by rw [← hAe]; exact Or.inr h
  have hS : va_S A s.heap s.heap [] := va_S.rf
  have hT := vx_table (x := yL_confirm) B (hts0 _ List.mem_cons_self)
  have hl := lv_entry ([.ref (ad 0), .int p0, .ref o]) (n := 4) (Nat.le_of_ble_eq_true rfl)
  rw [lg_entry_eq]
  generalize (lg_sl ([.ref (ad 0), .int p0, .ref o]) ++ List.replicate (4 - (lg_sl ([.ref (ad 0), .int p0, .ref o])).length) Slot.unset).toArray = ls at hl ⊢
  replace hl : lv_has ls 4 [(0, .ref (ad 0)), (1, .int p0), (2, .ref o)] := hl
  refine w_gen (fun Q hQ => ?_)
  refine lv_aload_n hx hb dL_confirm_0 rfl (lv_at hl 2 rfl) ?_
  refine lv_iconst (v := 0) hx hb dL_confirm_1 (by decide) ?_
  refine lv_aload_n hx hb dL_confirm_2 rfl (lv_at hl 0 rfl) ?_
  refine lv_iload_n hx hb dL_confirm_3 rfl (lv_at hl 1 rfl) ?_
  refine cX_iVF (As := [.int p0]) (rest := [.int 0, .ref o]) (wr := [(o, .inl (cJ, 1, .inr (.inl f)))]) ⟨hx, hb, hml, hown, hts⟩ (kx_X9_confirm l hl0 D cI cZ ad u p0 h) (cwV 1 hts (gwV mw_728 mw_729 mw_730 mw_48 mw_731) rfl rfl rfl (by decide +kernel) ⟨Nat.le_of_ble_eq_true rfl, Nat.le_of_ble_eq_true rfl⟩) (hK.sub [0, 1] rfl) hP hD hS hA hZ [1, 2, 3, 4, 5, 6, 7, 8, 9, 10, 11, 12, 13, 14, 15, 16, 17, 18, 19, 20, 21, 22, 23, 24, 25, 26, 27, 28, 29, 30, 31, 32, 33, 34, 35] [0] rfl rfl (by decide) rfl (by decide) (by decide) (ci := 9) (q0 := 0) rfl rfl rfl hl.1 rfl (Nat.le_of_ble_eq_true rfl) dL_confirm_4 ⟨Nat.le_of_ble_eq_true rfl, Nat.le_of_ble_eq_true rfl⟩ (fun ce q9 H locs hP hD hS h1 h2 h3 => ?_)
  replace hP : va_P D vwCl (wL cI cZ cJ ad o f w') H := hP
  replace hD : va_D A (wL cI cZ cJ ad o f w') := hD
  refine vx_catch (name := "java/lang/IndexOutOfBoundsException") hown [] ⟨0, 9, 12, 24⟩ [⟨0, 9, 15, 18⟩] hT (fun _ h => absurd h List.not_mem_nil) (by decide) (by decide) (hts _ mw_587) (va_Nw.use rfl (hZ.2.2.2.2.2.2.2.2.2.1 "java/lang/IndexOutOfBoundsException" (by decide +kernel))) h1 h2 h3 ?_
  refine lv_astore_n (lv' := [(3, .ref q9), (0, .ref (ad 0)), (1, .int p0), (2, .ref o)]) hx hb dL_confirm_12 rfl hl (by decide) rfl (fun ls hl => ?_)
  refine lv_iconst (v := 1) hx hb dL_confirm_13 (by decide) ?_
  exact cc_retC hx hb hr rfl hQ hK hP hD hS rfl dL_confirm_14 hlocks
set_option maxHeartbeats 4000000 in
set_option maxRecDepth 100000 in
theorem kx2_L_confirm (l : Launch) (hl0 : l.stackTraces = false) (D : va_G) (cI cZ cJ : ClassId) (ad : Nat → Nat) (o : Nat) (f : Nat → Int64) (u : GS) (p0 : Int32) {w' : GS} (h : g_X9_confirm u p0 = some (.inr "java/lang/IllegalStateException", w')) : MJ l yL_confirm (wmH yL_confirm cL_confirm 4 (some .int) [(0, 9, 12, 24), (0, 9, 15, 18)]) rx_L_confirm D [(cI, .int), (cZ, .boolean), (cJ, .long)] (wL cI cZ cJ ad o f u) (wL cI cZ cJ ad o f w') [.ref (ad 0), .int p0, .ref o] 2 1 6 := by
  intro sz
  refine va_MetW (cc := cL_confirm) (maxL := 4) (ret := some .int) (hh := [(0, 9, 12, 24), (0, 9, 15, 18)]) (by decide) rfl ?_
  intro p e s m args below meth c s₁ B hml hv
  obtain ⟨rfl, hsz, hP, hK, hD0, hZ⟩ := hv
  have hx := B.exec
  have hb := B.bytes
  have hr := B.returns
  have hts0 := atoms_spec (ws := wmH yL_confirm cL_confirm 4 (some .int) [(0, 9, 12, 24), (0, 9, 15, 18)]) B.pre
  have hts : ∀ w ∈ Wall, w.before _ s = true := fun w hw => hts0 w (List.mem_cons_of_mem _ hw)
  have hown : s.vm.findClass RL = some m.cls := findClass_of_methodNamed B.named
  have hlocks := B.notSynchronized
  subst hsz
  have hD := hD0.self (sz := s.heap.size)
  generalize hAe : va_A (wL cI cZ cJ ad o f u) s.heap.size = A at hD hZ ⊢
  have hA : ∀ q : Nat, s.heap.size ≤ q → A q := fun q h => by rw [← hAe]; exact Or.inr h
  have hS : va_S A s.heap s.heap [] := va_S.rf
  have hT := vx_table (x := yL_confirm) B (hts0 _ List.mem_cons_self)
  have hl := lv_entry ([.ref (ad 0), .int p0, .ref o]) (n := 4) (Nat.le_of_ble_eq_true rfl)
  rw [lg_entry_eq]
  generalize (lg_sl ([.ref (ad 0), .int p0, .ref o]) ++ List.replicate (4 - (lg_sl ([.ref (ad 0), .int p0, .ref o])).length) Slot.unset).toArray = ls at hl ⊢
  replace hl : lv_has ls 4 [(0, .ref (ad 0)), (1, .int p0), (2, .ref o)] := hl
  refine w_gen (fun Q hQ => ?_)
  refine lv_aload_n hx hb dL_confirm_0 rfl (lv_at hl 2 rfl) ?_
  refine lv_iconst (v := 0) hx hb dL_confirm_1 (by decide) ?_
  refine lv_aload_n hx hb dL_confirm_2 rfl (lv_at hl 0 rfl) ?_
  refine lv_iload_n hx hb dL_confirm_3 rfl (lv_at hl 1 rfl) ?_
  refine cX_iVF (As := [.int p0]) (rest := [.int 0, .ref o]) (wr := [(o, .inl (cJ, 1, .inr (.inl f)))]) ⟨hx, hb, hml, hown, hts⟩ (kx_X9_confirm l hl0 D cI cZ ad u p0 h) (cwV 1 hts (gwV mw_728 mw_729 mw_730 mw_48 mw_731) rfl rfl rfl (by decide +kernel) ⟨Nat.le_of_ble_eq_true rfl, Nat.le_of_ble_eq_true rfl⟩) (hK.sub [0, 1] rfl) hP hD hS hA hZ [1, 2, 3, 4, 5, 6, 7, 8, 9, 10, 11, 12, 13, 14, 15, 16, 17, 18, 19, 20, 21, 22, 23, 24, 25, 26, 27, 28, 29, 30, 31, 32, 33, 34, 35] [0] rfl rfl (by decide) rfl (by decide) (by decide) (ci := 9) (q0 := 0) rfl rfl rfl hl.1 rfl (Nat.le_of_ble_eq_true rfl) dL_confirm_4 ⟨Nat.le_of_ble_eq_true rfl, Nat.le_of_ble_eq_true rfl⟩ (fun ce q9 H locs hP hD hS h1 h2 h3 => ?_)
  replace hP : va_P D vwCl (wL cI cZ cJ ad o f w') H := hP
  replace hD : va_D A (wL cI cZ cJ ad o f w') := hD
  refine vx_catch (name := "java/lang/IllegalStateException") hown [⟨0, 9, 12, 24⟩] ⟨0, 9, 15, 18⟩ [] hT (List.forall_mem_cons.mpr ⟨Or.inr ⟨by decide, "java/lang/IndexOutOfBoundsException", hts _ mw_587, hZ.2.2.2.2.2.2.2.2.2.2 ("java/lang/IllegalStateException", "java/lang/IndexOutOfBoundsException") (by decide +kernel)⟩, (fun _ h => absurd h List.not_mem_nil)⟩) (by decide) (by decide) (hts _ mw_466) (va_Nw.use rfl (hZ.2.2.2.2.2.2.2.2.2.1 "java/lang/IllegalStateException" (by decide +kernel))) h1 h2 h3 ?_
  refine lv_astore_n (lv' := [(3, .ref q9), (0, .ref (ad 0)), (1, .int p0), (2, .ref o)]) hx hb dL_confirm_15 rfl hl (by decide) rfl (fun ls hl => ?_)
  refine lv_iconst (v := 2) hx hb dL_confirm_16 (by decide) ?_
  exact cc_retC hx hb hr rfl hQ hK hP hD hS rfl dL_confirm_17 hlocks

def rL_incident : Room := { frames := 4, cells := 0, slots := 0, locals := 86 }
def rx_L_incident : Room := { frames := 8, cells := 1, slots := 6, locals := 132 }
set_option maxHeartbeats 4000000 in
set_option maxRecDepth 100000 in
theorem k_L_incident (l : Launch) (D : va_G) (cI cZ cJ : ClassId) (ad : Nat → Nat) (o : Nat) (f : Nat → Int64) (u : GS) (p0 : Int32) (p1 : Int32) {r : Int32} {w' : GS} (h : g_X9_incident u p0 p1 = some (.inl r, w')) : MJ l yL_incident (wmH yL_incident cL_incident 5 (some .int) [(0, 10, 13, 24), (0, 10, 17, 13)]) rL_incident D [(cI, .int), (cZ, .boolean), (cJ, .long)] (wL cI cZ cJ ad o f u) (wL cI cZ cJ ad o (vp_updL f (0 : Int32).toNatClampNeg r.toInt64) w') [.ref (ad 0), .int p0, .int p1, .ref o] 0 0 0 := by
  intro sz
  refine va_MetW (cc := cL_incident) (maxL := 5) (ret := some .int) (hh := [(0, 10, 13, 24), (0, 10, 17, 13)]) (by decide) rfl ?_
  intro p e s m args below meth c s₁ B hml hv
  obtain ⟨rfl, hsz, hP, hK, hD0, hZ⟩ := hv
  have hx := B.exec
  have hb := B.bytes
  have hr := B.returns
  have hts0 := atoms_spec (ws := wmH yL_incident cL_incident 5 (some .int) [(0, 10, 13, 24), (0, 10, 17, 13)]) B.pre
  have hts : ∀ w ∈ Wall, w.before _ s = true := fun w hw => hts0 w (List.mem_cons_of_mem _ hw)
  have hown : s.vm.findClass RL = some m.cls := findClass_of_methodNamed B.named
  have hlocks := B.notSynchronized
  subst hsz
  have hD := hD0.self (sz := s.heap.size)
  generalize hAe : va_A (wL cI cZ cJ ad o f u) s.heap.size = A at hD hZ ⊢
  have hA : ∀ q : Nat, s.heap.size ≤ q → A q := fun q h => by rw [← hAe]; exact Or.inr h
  have hS : va_S A s.heap s.heap [] := va_S.rf
  have hl := lv_entry ([.ref (ad 0), .int p0, .int p1, .ref o]) (n := 5) (Nat.le_of_ble_eq_true rfl)
  rw [lg_entry_eq]
  generalize (lg_sl ([.ref (ad 0), .int p0, .int p1, .ref o]) ++ List.replicate (5 - (lg_sl ([.ref (ad 0), .int p0, .int p1, .ref o])).length) Slot.unset).toArray = ls at hl ⊢
  replace hl : lv_has ls 5 [(0, .ref (ad 0)), (1, .int p0), (2, .int p1), (3, .ref o)] := hl
  refine w_gen (fun Q hQ => ?_)
  refine lv_aload_n hx hb dL_incident_0 rfl (lv_at hl 3 rfl) ?_
  refine lv_iconst (v := 0) hx hb dL_incident_1 (by decide) ?_
  refine lv_aload_n hx hb dL_incident_2 rfl (lv_at hl 0 rfl) ?_
  refine lv_iload_n hx hb dL_incident_3 rfl (lv_at hl 1 rfl) ?_
  refine lv_iload_n hx hb dL_incident_4 rfl (lv_at hl 2 rfl) ?_
  refine cc_iVF (As := [.int p0, .int p1]) (rest := [.int 0, .ref o]) (wr := [(o, .inl (cJ, 1, .inr (.inl f)))]) ⟨hx, hb, hml, hown, hts⟩ (k_X9_incident l D cI cZ ad u p0 p1 h) (cwV 2 hts (gwV mw_736 mw_737 mw_738 mw_48 mw_739) rfl rfl rfl (by decide +kernel) ⟨Nat.le_of_ble_eq_true rfl, Nat.le_of_ble_eq_true rfl⟩) (hK.sub [0, 1] rfl) hP hD hS hA hZ [1, 2, 3, 4, 5, 6, 7, 8, 9, 10, 11, 12, 13, 14, 15, 16, 17, 18, 19, 20, 21, 22, 23, 24, 25, 26, 27, 28, 29, 30, 31, 32, 33, 34, 35] [0] rfl rfl (by decide) rfl (by decide) (by decide) (ci := 9) (q0 := 0) rfl rfl rfl hl.1 rfl (Nat.le_of_ble_eq_true rfl) dL_incident_5 ⟨Nat.zero_le _, Nat.zero_le _⟩ (fun H locs hP hD hS => ?_)
  replace hP : va_P D vwCl (wL cI cZ cJ ad o f w') H := hP
  replace hD : va_D A (wL cI cZ cJ ad o f w') := hD
  refine lv_i2l (v := r.toInt64) hx hb dL_incident_8 rfl ?_
  refine va_last (D := D) hx hb hK hP hD hS 0 2 rfl rfl (by unfold vp_in; decide) dL_incident_9 (fun H locs hP hD hS => ?_)
  replace hP : va_P D vwCl (wL cI cZ cJ ad o (vp_updL f (0 : Int32).toNatClampNeg r.toInt64) w') H := hP
  replace hD : va_D A (wL cI cZ cJ ad o (vp_updL f (0 : Int32).toNatClampNeg r.toInt64) w') := hD
  refine lv_goto (tgt := 21) hx hb dL_incident_10 (by decide) ?_
  refine lv_iconst (v := 0) hx hb dL_incident_21 (by decide) ?_
  exact cc_retC hx hb hr rfl hQ hK hP hD hS rfl dL_incident_22 hlocks
set_option maxHeartbeats 4000000 in
set_option maxRecDepth 100000 in
theorem kx1_L_incident (l : Launch) (hl0 : l.stackTraces = false) (D : va_G) (cI cZ cJ : ClassId) (ad : Nat → Nat) (o : Nat) (f : Nat → Int64) (u : GS) (p0 : Int32) (p1 : Int32) {w' : GS} (h : g_X9_incident u p0 p1 = some (.inr "java/lang/IndexOutOfBoundsException", w')) : MJ l yL_incident (wmH yL_incident cL_incident 5 (some .int) [(0, 10, 13, 24), (0, 10, 17, 13)]) rx_L_incident D [(cI, .int), (cZ, .boolean), (cJ, .long)] (wL cI cZ cJ ad o f u) (wL cI cZ cJ ad o f w') [.ref (ad 0), .int p0, .int p1, .ref o] 1 1 6 := by
  intro sz
  refine va_MetW (cc := cL_incident) (maxL := 5) (ret := some .int) (hh := [(0, 10, 13, 24), (0, 10, 17, 13)]) (by decide) rfl ?_
  intro p e s m args below meth c s₁ B hml hv
  obtain ⟨rfl, hsz, hP, hK, hD0, hZ⟩ := hv
  have hx := B.exec
  have hb := B.bytes
  have hr := B.returns
  have hts0 := atoms_spec (ws := wmH yL_incident cL_incident 5 (some .int) [(0, 10, 13, 24), (0, 10, 17, 13)]) B.pre
  have hts : ∀ w ∈ Wall, w.before _ s = true := fun w hw => hts0 w (List.mem_cons_of_mem _ hw)
  have hown : s.vm.findClass RL = some m.cls := findClass_of_methodNamed B.named
  have hlocks := B.notSynchronized
  subst hsz
  have hD := hD0.self (sz := s.heap.size)
  generalize hAe : va_A (wL cI cZ cJ ad o f u) s.heap.size = A at hD hZ ⊢
  have hA : ∀ q : Nat, s.heap.size ≤ q → A q := fun q h => by rw [← hAe]; exact Or.inr h
  have hS : va_S A s.heap s.heap [] := va_S.rf
  have hT := vx_table (x := yL_incident) B (hts0 _ List.mem_cons_self)
  have hl := lv_entry ([.ref (ad 0), .int p0, .int p1, .ref o]) (n := 5) (Nat.le_of_ble_eq_true rfl)
  rw [lg_entry_eq]
  generalize (lg_sl ([.ref (ad 0), .int p0, .int p1, .ref o]) ++ List.replicate (5 - (lg_sl ([.ref (ad 0), .int p0, .int p1, .ref o])).length) Slot.unset).toArray = ls at hl ⊢
  replace hl : lv_has ls 5 [(0, .ref (ad 0)), (1, .int p0), (2, .int p1), (3, .ref o)] := hl
  refine w_gen (fun Q hQ => ?_)
  refine lv_aload_n hx hb dL_incident_0 rfl (lv_at hl 3 rfl) ?_
  refine lv_iconst (v := 0) hx hb dL_incident_1 (by decide) ?_
  refine lv_aload_n hx hb dL_incident_2 rfl (lv_at hl 0 rfl) ?_
  refine lv_iload_n hx hb dL_incident_3 rfl (lv_at hl 1 rfl) ?_
  refine lv_iload_n hx hb dL_incident_4 rfl (lv_at hl 2 rfl) ?_
  refine cX_iVF (As := [.int p0, .int p1]) (rest := [.int 0, .ref o]) (wr := [(o, .inl (cJ, 1, .inr (.inl f)))]) ⟨hx, hb, hml, hown, hts⟩ (kx_X9_incident l hl0 D cI cZ ad u p0 p1 h) (cwV 2 hts (gwV mw_736 mw_737 mw_738 mw_48 mw_739) rfl rfl rfl (by decide +kernel) ⟨Nat.le_of_ble_eq_true rfl, Nat.le_of_ble_eq_true rfl⟩) (hK.sub [0, 1] rfl) hP hD hS hA hZ [1, 2, 3, 4, 5, 6, 7, 8, 9, 10, 11, 12, 13, 14, 15, 16, 17, 18, 19, 20, 21, 22, 23, 24, 25, 26, 27, 28, 29, 30, 31, 32, 33, 34, 35] [0] rfl rfl (by decide) rfl (by decide) (by decide) (ci := 9) (q0 := 0) rfl rfl rfl hl.1 rfl (Nat.le_of_ble_eq_true rfl) dL_incident_5 ⟨Nat.le_of_ble_eq_true rfl, Nat.le_of_ble_eq_true rfl⟩ (fun ce q9 H locs hP hD hS h1 h2 h3 => ?_)
  replace hP : va_P D vwCl (wL cI cZ cJ ad o f w') H := hP
  replace hD : va_D A (wL cI cZ cJ ad o f w') := hD
  refine vx_catch (name := "java/lang/IndexOutOfBoundsException") hown [] ⟨0, 10, 13, 24⟩ [⟨0, 10, 17, 13⟩] hT (fun _ h => absurd h List.not_mem_nil) (by decide) (by decide) (hts _ mw_587) (va_Nw.use rfl (hZ.2.2.2.2.2.2.2.2.2.1 "java/lang/IndexOutOfBoundsException" (by decide +kernel))) h1 h2 h3 ?_
  refine lv_astore (lv' := [(4, .ref q9), (0, .ref (ad 0)), (1, .int p0), (2, .int p1), (3, .ref o)]) hx hb dL_incident_13 hl (by decide) rfl (fun ls hl => ?_)
  refine lv_iconst (v := 1) hx hb dL_incident_15 (by decide) ?_
  exact cc_retC hx hb hr rfl hQ hK hP hD hS rfl dL_incident_16 hlocks
set_option maxHeartbeats 4000000 in
set_option maxRecDepth 100000 in
theorem kx2_L_incident (l : Launch) (hl0 : l.stackTraces = false) (D : va_G) (cI cZ cJ : ClassId) (ad : Nat → Nat) (o : Nat) (f : Nat → Int64) (u : GS) (p0 : Int32) (p1 : Int32) {w' : GS} (h : g_X9_incident u p0 p1 = some (.inr "java/lang/IllegalArgumentException", w')) : MJ l yL_incident (wmH yL_incident cL_incident 5 (some .int) [(0, 10, 13, 24), (0, 10, 17, 13)]) rx_L_incident D [(cI, .int), (cZ, .boolean), (cJ, .long)] (wL cI cZ cJ ad o f u) (wL cI cZ cJ ad o f w') [.ref (ad 0), .int p0, .int p1, .ref o] 2 1 6 := by
  intro sz
  refine va_MetW (cc := cL_incident) (maxL := 5) (ret := some .int) (hh := [(0, 10, 13, 24), (0, 10, 17, 13)]) (by decide) rfl ?_
  intro p e s m args below meth c s₁ B hml hv
  obtain ⟨rfl, hsz, hP, hK, hD0, hZ⟩ := hv
  have hx := B.exec
  have hb := B.bytes
  have hr := B.returns
  have hts0 := atoms_spec (ws := wmH yL_incident cL_incident 5 (some .int) [(0, 10, 13, 24), (0, 10, 17, 13)]) B.pre
  have hts : ∀ w ∈ Wall, w.before _ s = true := fun w hw => hts0 w (List.mem_cons_of_mem _ hw)
  have hown : s.vm.findClass RL = some m.cls := findClass_of_methodNamed B.named
  have hlocks := B.notSynchronized
  subst hsz
  have hD := hD0.self (sz := s.heap.size)
  generalize hAe : va_A (wL cI cZ cJ ad o f u) s.heap.size = A at hD hZ ⊢
  have hA : ∀ q : Nat, s.heap.size ≤ q → A q := fun q h => by rw [← hAe]; exact Or.inr h
  have hS : va_S A s.heap s.heap [] := va_S.rf
  have hT := vx_table (x := yL_incident) B (hts0 _ List.mem_cons_self)
  have hl := lv_entry ([.ref (ad 0), .int p0, .int p1, .ref o]) (n := 5) (Nat.le_of_ble_eq_true rfl)
  rw [lg_entry_eq]
  generalize (lg_sl ([.ref (ad 0), .int p0, .int p1, .ref o]) ++ List.replicate (5 - (lg_sl ([.ref (ad 0), .int p0, .int p1, .ref o])).length) Slot.unset).toArray = ls at hl ⊢
  replace hl : lv_has ls 5 [(0, .ref (ad 0)), (1, .int p0), (2, .int p1), (3, .ref o)] := hl
  refine w_gen (fun Q hQ => ?_)
  refine lv_aload_n hx hb dL_incident_0 rfl (lv_at hl 3 rfl) ?_
  refine lv_iconst (v := 0) hx hb dL_incident_1 (by decide) ?_
  refine lv_aload_n hx hb dL_incident_2 rfl (lv_at hl 0 rfl) ?_
  refine lv_iload_n hx hb dL_incident_3 rfl (lv_at hl 1 rfl) ?_
  refine lv_iload_n hx hb dL_incident_4 rfl (lv_at hl 2 rfl) ?_
  refine cX_iVF (As := [.int p0, .int p1]) (rest := [.int 0, .ref o]) (wr := [(o, .inl (cJ, 1, .inr (.inl f)))]) ⟨hx, hb, hml, hown, hts⟩ (kx_X9_incident l hl0 D cI cZ ad u p0 p1 h) (cwV 2 hts (gwV mw_736 mw_737 mw_738 mw_48 mw_739) rfl rfl rfl (by decide +kernel) ⟨Nat.le_of_ble_eq_true rfl, Nat.le_of_ble_eq_true rfl⟩) (hK.sub [0, 1] rfl) hP hD hS hA hZ [1, 2, 3, 4, 5, 6, 7, 8, 9, 10, 11, 12, 13, 14, 15, 16, 17, 18, 19, 20, 21, 22, 23, 24, 25, 26, 27, 28, 29, 30, 31, 32, 33, 34, 35] [0] rfl rfl (by decide) rfl (by decide) (by decide) (ci := 9) (q0 := 0) rfl rfl rfl hl.1 rfl (Nat.le_of_ble_eq_true rfl) dL_incident_5 ⟨Nat.le_of_ble_eq_true rfl, Nat.le_of_ble_eq_true rfl⟩ (fun ce q9 H locs hP hD hS h1 h2 h3 => ?_)
  replace hP : va_P D vwCl (wL cI cZ cJ ad o f w') H := hP
  replace hD : va_D A (wL cI cZ cJ ad o f w') := hD
  refine vx_catch (name := "java/lang/IllegalArgumentException") hown [⟨0, 10, 13, 24⟩] ⟨0, 10, 17, 13⟩ [] hT (List.forall_mem_cons.mpr ⟨Or.inr ⟨by decide, "java/lang/IndexOutOfBoundsException", hts _ mw_587, hZ.2.2.2.2.2.2.2.2.2.2 ("java/lang/IllegalArgumentException", "java/lang/IndexOutOfBoundsException") (by decide +kernel)⟩, (fun _ h => absurd h List.not_mem_nil)⟩) (by decide) (by decide) (hts _ mw_386) (va_Nw.use rfl (hZ.2.2.2.2.2.2.2.2.2.1 "java/lang/IllegalArgumentException" (by decide +kernel))) h1 h2 h3 ?_
  refine lv_astore (lv' := [(4, .ref q9), (0, .ref (ad 0)), (1, .int p0), (2, .int p1), (3, .ref o)]) hx hb dL_incident_17 hl (by decide) rfl (fun ls hl => ?_)
  refine lv_iconst (v := 2) hx hb dL_incident_19 (by decide) ?_
  exact cc_retC hx hb hr rfl hQ hK hP hD hS rfl dL_incident_20 hlocks

def rL_way : Room := { frames := 5, cells := 0, slots := 0, locals := 110 }
def rx_L_way : Room := { frames := 9, cells := 1, slots := 6, locals := 152 }
set_option maxHeartbeats 4000000 in
set_option maxRecDepth 100000 in
theorem k_L_way (l : Launch) (D : va_G) (cI cZ cJ : ClassId) (ad : Nat → Nat) (o : Nat) (f : Nat → Int64) (u : GS) (p0 : Int32) (p1 : Int32) {r : Int32} {w' : GS} (h : g_X9_way u p0 p1 = some (.inl r, w')) : MJ l yL_way (wmH yL_way cL_way 5 (some .int) [(0, 10, 13, 24)]) rL_way D [(cI, .int), (cZ, .boolean), (cJ, .long)] (wL cI cZ cJ ad o f u) (wL cI cZ cJ ad o (vp_updL f (0 : Int32).toNatClampNeg r.toInt64) w') [.ref (ad 0), .int p0, .int p1, .ref o] 0 0 0 := by
  intro sz
  refine va_MetW (cc := cL_way) (maxL := 5) (ret := some .int) (hh := [(0, 10, 13, 24)]) (by decide) rfl ?_
  intro p e s m args below meth c s₁ B hml hv
  obtain ⟨rfl, hsz, hP, hK, hD0, hZ⟩ := hv
  have hx := B.exec
  have hb := B.bytes
  have hr := B.returns
  have hts0 := atoms_spec (ws := wmH yL_way cL_way 5 (some .int) [(0, 10, 13, 24)]) B.pre
  have hts : ∀ w ∈ Wall, w.before _ s = true := fun w hw => hts0 w (List.mem_cons_of_mem _ hw)
  have hown : s.vm.findClass RL = some m.cls := findClass_of_methodNamed B.named
  have hlocks := B.notSynchronized
  subst hsz
  have hD := hD0.self (sz := s.heap.size)
  generalize hAe : va_A (wL cI cZ cJ ad o f u) s.heap.size = A at hD hZ ⊢
  have hA : ∀ q : Nat, s.heap.size ≤ q → A q := fun q h => by rw [← hAe]; exact Or.inr h
  have hS : va_S A s.heap s.heap [] := va_S.rf
  have hl := lv_entry ([.ref (ad 0), .int p0, .int p1, .ref o]) (n := 5) (Nat.le_of_ble_eq_true rfl)
  rw [lg_entry_eq]
  generalize (lg_sl ([.ref (ad 0), .int p0, .int p1, .ref o]) ++ List.replicate (5 - (lg_sl ([.ref (ad 0), .int p0, .int p1, .ref o])).length) Slot.unset).toArray = ls at hl ⊢
  replace hl : lv_has ls 5 [(0, .ref (ad 0)), (1, .int p0), (2, .int p1), (3, .ref o)] := hl
  refine w_gen (fun Q hQ => ?_)
  refine lv_aload_n hx hb dL_way_0 rfl (lv_at hl 3 rfl) ?_
  refine lv_iconst (v := 0) hx hb dL_way_1 (by decide) ?_
  refine lv_aload_n hx hb dL_way_2 rfl (lv_at hl 0 rfl) ?_
  refine lv_iload_n hx hb dL_way_3 rfl (lv_at hl 1 rfl) ?_
  refine lv_iload_n hx hb dL_way_4 rfl (lv_at hl 2 rfl) ?_
  refine cc_iVF (As := [.int p0, .int p1]) (rest := [.int 0, .ref o]) (wr := [(o, .inl (cJ, 1, .inr (.inl f)))]) ⟨hx, hb, hml, hown, hts⟩ (k_X9_way l D cI cZ ad u p0 p1 h) (cwV 2 hts (gwV mw_743 mw_744 mw_745 mw_48 mw_746) rfl rfl rfl (by decide +kernel) ⟨Nat.le_of_ble_eq_true rfl, Nat.le_of_ble_eq_true rfl⟩) (hK.sub [0, 1] rfl) hP hD hS hA hZ [1, 2, 3, 4, 5, 6, 7, 8, 9, 10, 11, 12, 13, 14, 15, 16, 17, 18, 19, 20, 21, 22, 23, 24, 25, 26, 27, 28, 29, 30, 31, 32, 33, 34, 35] [0] rfl rfl (by decide) rfl (by decide) (by decide) (ci := 9) (q0 := 0) rfl rfl rfl hl.1 rfl (Nat.le_of_ble_eq_true rfl) dL_way_5 ⟨Nat.zero_le _, Nat.zero_le _⟩ (fun H locs hP hD hS => ?_)
  replace hP : va_P D vwCl (wL cI cZ cJ ad o f w') H := hP
  replace hD : va_D A (wL cI cZ cJ ad o f w') := hD
  refine lv_i2l (v := r.toInt64) hx hb dL_way_8 rfl ?_
  refine va_last (D := D) hx hb hK hP hD hS 0 2 rfl rfl (by unfold vp_in; decide) dL_way_9 (fun H locs hP hD hS => ?_)
  replace hP : va_P D vwCl (wL cI cZ cJ ad o (vp_updL f (0 : Int32).toNatClampNeg r.toInt64) w') H := hP
  replace hD : va_D A (wL cI cZ cJ ad o (vp_updL f (0 : Int32).toNatClampNeg r.toInt64) w') := hD
  refine lv_goto (tgt := 17) hx hb dL_way_10 (by decide) ?_
  refine lv_iconst (v := 0) hx hb dL_way_17 (by decide) ?_
  exact cc_retC hx hb hr rfl hQ hK hP hD hS rfl dL_way_18 hlocks
set_option maxHeartbeats 4000000 in
set_option maxRecDepth 100000 in
theorem kx1_L_way (l : Launch) (hl0 : l.stackTraces = false) (D : va_G) (cI cZ cJ : ClassId) (ad : Nat → Nat) (o : Nat) (f : Nat → Int64) (u : GS) (p0 : Int32) (p1 : Int32) {w' : GS} (h : g_X9_way u p0 p1 = some (.inr "java/lang/IndexOutOfBoundsException", w')) : MJ l yL_way (wmH yL_way cL_way 5 (some .int) [(0, 10, 13, 24)]) rx_L_way D [(cI, .int), (cZ, .boolean), (cJ, .long)] (wL cI cZ cJ ad o f u) (wL cI cZ cJ ad o f w') [.ref (ad 0), .int p0, .int p1, .ref o] 1 1 6 := by
  intro sz
  refine va_MetW (cc := cL_way) (maxL := 5) (ret := some .int) (hh := [(0, 10, 13, 24)]) (by decide) rfl ?_
  intro p e s m args below meth c s₁ B hml hv
  obtain ⟨rfl, hsz, hP, hK, hD0, hZ⟩ := hv
  have hx := B.exec
  have hb := B.bytes
  have hr := B.returns
  have hts0 := atoms_spec (ws := wmH yL_way cL_way 5 (some .int) [(0, 10, 13, 24)]) B.pre
  have hts : ∀ w ∈ Wall, w.before _ s = true := fun w hw => hts0 w (List.mem_cons_of_mem _ hw)
  have hown : s.vm.findClass RL = some m.cls := findClass_of_methodNamed B.named
  have hlocks := B.notSynchronized
  subst hsz
  have hD := hD0.self (sz := s.heap.size)
  generalize hAe : va_A (wL cI cZ cJ ad o f u) s.heap.size = A at hD hZ ⊢
  have hA : ∀ q : Nat, s.heap.size ≤ q → A q := fun q h => by rw [← hAe]; exact Or.inr h
  have hS : va_S A s.heap s.heap [] := va_S.rf
  have hT := vx_table (x := yL_way) B (hts0 _ List.mem_cons_self)
  have hl := lv_entry ([.ref (ad 0), .int p0, .int p1, .ref o]) (n := 5) (Nat.le_of_ble_eq_true rfl)
  rw [lg_entry_eq]
  generalize (lg_sl ([.ref (ad 0), .int p0, .int p1, .ref o]) ++ List.replicate (5 - (lg_sl ([.ref (ad 0), .int p0, .int p1, .ref o])).length) Slot.unset).toArray = ls at hl ⊢
  replace hl : lv_has ls 5 [(0, .ref (ad 0)), (1, .int p0), (2, .int p1), (3, .ref o)] := hl
  refine w_gen (fun Q hQ => ?_)
  refine lv_aload_n hx hb dL_way_0 rfl (lv_at hl 3 rfl) ?_
  refine lv_iconst (v := 0) hx hb dL_way_1 (by decide) ?_
  refine lv_aload_n hx hb dL_way_2 rfl (lv_at hl 0 rfl) ?_
  refine lv_iload_n hx hb dL_way_3 rfl (lv_at hl 1 rfl) ?_
  refine lv_iload_n hx hb dL_way_4 rfl (lv_at hl 2 rfl) ?_
  refine cX_iVF (As := [.int p0, .int p1]) (rest := [.int 0, .ref o]) (wr := [(o, .inl (cJ, 1, .inr (.inl f)))]) ⟨hx, hb, hml, hown, hts⟩ (kx_X9_way l hl0 D cI cZ ad u p0 p1 h) (cwV 2 hts (gwV mw_743 mw_744 mw_745 mw_48 mw_746) rfl rfl rfl (by decide +kernel) ⟨Nat.le_of_ble_eq_true rfl, Nat.le_of_ble_eq_true rfl⟩) (hK.sub [0, 1] rfl) hP hD hS hA hZ [1, 2, 3, 4, 5, 6, 7, 8, 9, 10, 11, 12, 13, 14, 15, 16, 17, 18, 19, 20, 21, 22, 23, 24, 25, 26, 27, 28, 29, 30, 31, 32, 33, 34, 35] [0] rfl rfl (by decide) rfl (by decide) (by decide) (ci := 9) (q0 := 0) rfl rfl rfl hl.1 rfl (Nat.le_of_ble_eq_true rfl) dL_way_5 ⟨Nat.le_of_ble_eq_true rfl, Nat.le_of_ble_eq_true rfl⟩ (fun ce q9 H locs hP hD hS h1 h2 h3 => ?_)
  replace hP : va_P D vwCl (wL cI cZ cJ ad o f w') H := hP
  replace hD : va_D A (wL cI cZ cJ ad o f w') := hD
  refine vx_catch (name := "java/lang/IndexOutOfBoundsException") hown [] ⟨0, 10, 13, 24⟩ [] hT (fun _ h => absurd h List.not_mem_nil) (by decide) (by decide) (hts _ mw_587) (va_Nw.use rfl (hZ.2.2.2.2.2.2.2.2.2.1 "java/lang/IndexOutOfBoundsException" (by decide +kernel))) h1 h2 h3 ?_
  refine lv_astore (lv' := [(4, .ref q9), (0, .ref (ad 0)), (1, .int p0), (2, .int p1), (3, .ref o)]) hx hb dL_way_13 hl (by decide) rfl (fun ls hl => ?_)
  refine lv_iconst (v := 1) hx hb dL_way_15 (by decide) ?_
  exact cc_retC hx hb hr rfl hQ hK hP hD hS rfl dL_way_16 hlocks

def rL_send : Room := { frames := 5, cells := 0, slots := 0, locals := 111 }
def rx_L_send : Room := { frames := 9, cells := 1, slots := 6, locals := 153 }
set_option maxHeartbeats 4000000 in
set_option maxRecDepth 100000 in
theorem k_L_send (l : Launch) (D : va_G) (cI cZ cJ : ClassId) (ad : Nat → Nat) (o : Nat) (f : Nat → Int64) (u : GS) (p0 : Int32) (p1 : Int32) {r : Int32} {w' : GS} (h : g_X9_send u p0 p1 = some (.inl r, w')) : MJ l yL_send (wmH yL_send cL_send 5 (some .int) [(0, 10, 13, 24), (0, 10, 17, 18)]) rL_send D [(cI, .int), (cZ, .boolean), (cJ, .long)] (wL cI cZ cJ ad o f u) (wL cI cZ cJ ad o (vp_updL f (0 : Int32).toNatClampNeg r.toInt64) w') [.ref (ad 0), .int p0, .int p1, .ref o] 0 0 0 := by
  intro sz
  refine va_MetW (cc := cL_send) (maxL := 5) (ret := some .int) (hh := [(0, 10, 13, 24), (0, 10, 17, 18)]) (by decide) rfl ?_
  intro p e s m args below meth c s₁ B hml hv
  obtain ⟨rfl, hsz, hP, hK, hD0, hZ⟩ := hv
  have hx := B.exec
  have hb := B.bytes
  have hr := B.returns
  have hts0 := atoms_spec (ws := wmH yL_send cL_send 5 (some .int) [(0, 10, 13, 24), (0, 10, 17, 18)]) B.pre
  have hts : ∀ w ∈ Wall, w.before _ s = true := fun w hw => hts0 w (List.mem_cons_of_mem _ hw)
  have hown : s.vm.findClass RL = some m.cls := findClass_of_methodNamed B.named
  have hlocks := B.notSynchronized
  subst hsz
  have hD := hD0.self (sz := s.heap.size)
  generalize hAe : va_A (wL cI cZ cJ ad o f u) s.heap.size = A at hD hZ ⊢
  have hA : ∀ q : Nat, s.heap.size ≤ q → A q := fun q h => by rw [← hAe]; exact Or.inr h
  have hS : va_S A s.heap s.heap [] := va_S.rf
  have hl := lv_entry ([.ref (ad 0), .int p0, .int p1, .ref o]) (n := 5) (Nat.le_of_ble_eq_true rfl)
  rw [lg_entry_eq]
  generalize (lg_sl ([.ref (ad 0), .int p0, .int p1, .ref o]) ++ List.replicate (5 - (lg_sl ([.ref (ad 0), .int p0, .int p1, .ref o])).length) Slot.unset).toArray = ls at hl ⊢
  replace hl : lv_has ls 5 [(0, .ref (ad 0)), (1, .int p0), (2, .int p1), (3, .ref o)] := hl
  refine w_gen (fun Q hQ => ?_)
  refine lv_aload_n hx hb dL_send_0 rfl (lv_at hl 3 rfl) ?_
  refine lv_iconst (v := 0) hx hb dL_send_1 (by decide) ?_
  refine lv_aload_n hx hb dL_send_2 rfl (lv_at hl 0 rfl) ?_
  refine lv_iload_n hx hb dL_send_3 rfl (lv_at hl 1 rfl) ?_
  refine lv_iload_n hx hb dL_send_4 rfl (lv_at hl 2 rfl) ?_
  refine cc_iVF (As := [.int p0, .int p1]) (rest := [.int 0, .ref o]) (wr := [(o, .inl (cJ, 1, .inr (.inl f)))]) ⟨hx, hb, hml, hown, hts⟩ (k_X9_send l D cI cZ ad u p0 p1 h) (cwV 2 hts (gwV mw_766 mw_767 mw_768 mw_48 mw_769) rfl rfl rfl (by decide +kernel) ⟨Nat.le_of_ble_eq_true rfl, Nat.le_of_ble_eq_true rfl⟩) (hK.sub [0, 1] rfl) hP hD hS hA hZ [1, 2, 3, 4, 5, 6, 7, 8, 9, 10, 11, 12, 13, 14, 15, 16, 17, 18, 19, 20, 21, 22, 23, 24, 25, 26, 27, 28, 29, 30, 31, 32, 33, 34, 35] [0] rfl rfl (by decide) rfl (by decide) (by decide) (ci := 9) (q0 := 0) rfl rfl rfl hl.1 rfl (Nat.le_of_ble_eq_true rfl) dL_send_5 ⟨Nat.zero_le _, Nat.zero_le _⟩ (fun H locs hP hD hS => ?_)
  replace hP : va_P D vwCl (wL cI cZ cJ ad o f w') H := hP
  replace hD : va_D A (wL cI cZ cJ ad o f w') := hD
  refine lv_i2l (v := r.toInt64) hx hb dL_send_8 rfl ?_
  refine va_last (D := D) hx hb hK hP hD hS 0 2 rfl rfl (by unfold vp_in; decide) dL_send_9 (fun H locs hP hD hS => ?_)
  replace hP : va_P D vwCl (wL cI cZ cJ ad o (vp_updL f (0 : Int32).toNatClampNeg r.toInt64) w') H := hP
  replace hD : va_D A (wL cI cZ cJ ad o (vp_updL f (0 : Int32).toNatClampNeg r.toInt64) w') := hD
  refine lv_goto (tgt := 21) hx hb dL_send_10 (by decide) ?_
  refine lv_iconst (v := 0) hx hb dL_send_21 (by decide) ?_
  exact cc_retC hx hb hr rfl hQ hK hP hD hS rfl dL_send_22 hlocks
set_option maxHeartbeats 4000000 in
set_option maxRecDepth 100000 in
theorem kx1_L_send (l : Launch) (hl0 : l.stackTraces = false) (D : va_G) (cI cZ cJ : ClassId) (ad : Nat → Nat) (o : Nat) (f : Nat → Int64) (u : GS) (p0 : Int32) (p1 : Int32) {w' : GS} (h : g_X9_send u p0 p1 = some (.inr "java/lang/IndexOutOfBoundsException", w')) : MJ l yL_send (wmH yL_send cL_send 5 (some .int) [(0, 10, 13, 24), (0, 10, 17, 18)]) rx_L_send D [(cI, .int), (cZ, .boolean), (cJ, .long)] (wL cI cZ cJ ad o f u) (wL cI cZ cJ ad o f w') [.ref (ad 0), .int p0, .int p1, .ref o] 1 1 6 := by
  intro sz
  refine va_MetW (cc := cL_send) (maxL := 5) (ret := some .int) (hh := [(0, 10, 13, 24), (0, 10, 17, 18)]) (by decide) rfl ?_
  intro p e s m args below meth c s₁ B hml hv
  obtain ⟨rfl, hsz, hP, hK, hD0, hZ⟩ := hv
  have hx := B.exec
  have hb := B.bytes
  have hr := B.returns
  have hts0 := atoms_spec (ws := wmH yL_send cL_send 5 (some .int) [(0, 10, 13, 24), (0, 10, 17, 18)]) B.pre
  have hts : ∀ w ∈ Wall, w.before _ s = true := fun w hw => hts0 w (List.mem_cons_of_mem _ hw)
  have hown : s.vm.findClass RL = some m.cls := findClass_of_methodNamed B.named
  have hlocks := B.notSynchronized
  subst hsz
  have hD := hD0.self (sz := s.heap.size)
  generalize hAe : va_A (wL cI cZ cJ ad o f u) s.heap.size = A at hD hZ ⊢
  have hA : ∀ q : Nat, s.heap.size ≤ q → A q := fun q h => by rw [← hAe]; exact Or.inr h
  have hS : va_S A s.heap s.heap [] := va_S.rf
  have hT := vx_table (x := yL_send) B (hts0 _ List.mem_cons_self)
  have hl := lv_entry ([.ref (ad 0), .int p0, .int p1, .ref o]) (n := 5) (Nat.le_of_ble_eq_true rfl)
  rw [lg_entry_eq]
  generalize (lg_sl ([.ref (ad 0), .int p0, .int p1, .ref o]) ++ List.replicate (5 - (lg_sl ([.ref (ad 0), .int p0, .int p1, .ref o])).length) Slot.unset).toArray = ls at hl ⊢
  replace hl : lv_has ls 5 [(0, .ref (ad 0)), (1, .int p0), (2, .int p1), (3, .ref o)] := hl
  refine w_gen (fun Q hQ => ?_)
  refine lv_aload_n hx hb dL_send_0 rfl (lv_at hl 3 rfl) ?_
  refine lv_iconst (v := 0) hx hb dL_send_1 (by decide) ?_
  refine lv_aload_n hx hb dL_send_2 rfl (lv_at hl 0 rfl) ?_
  refine lv_iload_n hx hb dL_send_3 rfl (lv_at hl 1 rfl) ?_
  refine lv_iload_n hx hb dL_send_4 rfl (lv_at hl 2 rfl) ?_
  refine cX_iVF (As := [.int p0, .int p1]) (rest := [.int 0, .ref o]) (wr := [(o, .inl (cJ, 1, .inr (.inl f)))]) ⟨hx, hb, hml, hown, hts⟩ (kx_X9_send l hl0 D cI cZ ad u p0 p1 h) (cwV 2 hts (gwV mw_766 mw_767 mw_768 mw_48 mw_769) rfl rfl rfl (by decide +kernel) ⟨Nat.le_of_ble_eq_true rfl, Nat.le_of_ble_eq_true rfl⟩) (hK.sub [0, 1] rfl) hP hD hS hA hZ [1, 2, 3, 4, 5, 6, 7, 8, 9, 10, 11, 12, 13, 14, 15, 16, 17, 18, 19, 20, 21, 22, 23, 24, 25, 26, 27, 28, 29, 30, 31, 32, 33, 34, 35] [0] rfl rfl (by decide) rfl (by decide) (by decide) (ci := 9) (q0 := 0) rfl rfl rfl hl.1 rfl (Nat.le_of_ble_eq_true rfl) dL_send_5 ⟨Nat.le_of_ble_eq_true rfl, Nat.le_of_ble_eq_true rfl⟩ (fun ce q9 H locs hP hD hS h1 h2 h3 => ?_)
  replace hP : va_P D vwCl (wL cI cZ cJ ad o f w') H := hP
  replace hD : va_D A (wL cI cZ cJ ad o f w') := hD
  refine vx_catch (name := "java/lang/IndexOutOfBoundsException") hown [] ⟨0, 10, 13, 24⟩ [⟨0, 10, 17, 18⟩] hT (fun _ h => absurd h List.not_mem_nil) (by decide) (by decide) (hts _ mw_587) (va_Nw.use rfl (hZ.2.2.2.2.2.2.2.2.2.1 "java/lang/IndexOutOfBoundsException" (by decide +kernel))) h1 h2 h3 ?_
  refine lv_astore (lv' := [(4, .ref q9), (0, .ref (ad 0)), (1, .int p0), (2, .int p1), (3, .ref o)]) hx hb dL_send_13 hl (by decide) rfl (fun ls hl => ?_)
  refine lv_iconst (v := 1) hx hb dL_send_15 (by decide) ?_
  exact cc_retC hx hb hr rfl hQ hK hP hD hS rfl dL_send_16 hlocks
set_option maxHeartbeats 4000000 in
set_option maxRecDepth 100000 in
theorem kx2_L_send (l : Launch) (hl0 : l.stackTraces = false) (D : va_G) (cI cZ cJ : ClassId) (ad : Nat → Nat) (o : Nat) (f : Nat → Int64) (u : GS) (p0 : Int32) (p1 : Int32) {w' : GS} (h : g_X9_send u p0 p1 = some (.inr "java/lang/IllegalStateException", w')) : MJ l yL_send (wmH yL_send cL_send 5 (some .int) [(0, 10, 13, 24), (0, 10, 17, 18)]) rx_L_send D [(cI, .int), (cZ, .boolean), (cJ, .long)] (wL cI cZ cJ ad o f u) (wL cI cZ cJ ad o f w') [.ref (ad 0), .int p0, .int p1, .ref o] 2 1 6 := by
  intro sz
  refine va_MetW (cc := cL_send) (maxL := 5) (ret := some .int) (hh := [(0, 10, 13, 24), (0, 10, 17, 18)]) (by decide) rfl ?_
  intro p e s m args below meth c s₁ B hml hv
  obtain ⟨rfl, hsz, hP, hK, hD0, hZ⟩ := hv
  have hx := B.exec
  have hb := B.bytes
  have hr := B.returns
  have hts0 := atoms_spec (ws := wmH yL_send cL_send 5 (some .int) [(0, 10, 13, 24), (0, 10, 17, 18)]) B.pre
  have hts : ∀ w ∈ Wall, w.before _ s = true := fun w hw => hts0 w (List.mem_cons_of_mem _ hw)
  have hown : s.vm.findClass RL = some m.cls := findClass_of_methodNamed B.named
  have hlocks := B.notSynchronized
  subst hsz
  have hD := hD0.self (sz := s.heap.size)
  generalize hAe : va_A (wL cI cZ cJ ad o f u) s.heap.size = A at hD hZ ⊢
  have hA : ∀ q : Nat, s.heap.size ≤ q → A q := fun q h => by rw [← hAe]; exact Or.inr h
  have hS : va_S A s.heap s.heap [] := va_S.rf
  have hT := vx_table (x := yL_send) B (hts0 _ List.mem_cons_self)
  have hl := lv_entry ([.ref (ad 0), .int p0, .int p1, .ref o]) (n := 5) (Nat.le_of_ble_eq_true rfl)
  rw [lg_entry_eq]
  generalize (lg_sl ([.ref (ad 0), .int p0, .int p1, .ref o]) ++ List.replicate (5 - (lg_sl ([.ref (ad 0), .int p0, .int p1, .ref o])).length) Slot.unset).toArray = ls at hl ⊢
  replace hl : lv_has ls 5 [(0, .ref (ad 0)), (1, .int p0), (2, .int p1), (3, .ref o)] := hl
  refine w_gen (fun Q hQ => ?_)
  refine lv_aload_n hx hb dL_send_0 rfl (lv_at hl 3 rfl) ?_
  refine lv_iconst (v := 0) hx hb dL_send_1 (by decide) ?_
  refine lv_aload_n hx hb dL_send_2 rfl (lv_at hl 0 rfl) ?_
  refine lv_iload_n hx hb dL_send_3 rfl (lv_at hl 1 rfl) ?_
  refine lv_iload_n hx hb dL_send_4 rfl (lv_at hl 2 rfl) ?_
  refine cX_iVF (As := [.int p0, .int p1]) (rest := [.int 0, .ref o]) (wr := [(o, .inl (cJ, 1, .inr (.inl f)))]) ⟨hx, hb, hml, hown, hts⟩ (kx_X9_send l hl0 D cI cZ ad u p0 p1 h) (cwV 2 hts (gwV mw_766 mw_767 mw_768 mw_48 mw_769) rfl rfl rfl (by decide +kernel) ⟨Nat.le_of_ble_eq_true rfl, Nat.le_of_ble_eq_true rfl⟩) (hK.sub [0, 1] rfl) hP hD hS hA hZ [1, 2, 3, 4, 5, 6, 7, 8, 9, 10, 11, 12, 13, 14, 15, 16, 17, 18, 19, 20, 21, 22, 23, 24, 25, 26, 27, 28, 29, 30, 31, 32, 33, 34, 35] [0] rfl rfl (by decide) rfl (by decide) (by decide) (ci := 9) (q0 := 0) rfl rfl rfl hl.1 rfl (Nat.le_of_ble_eq_true rfl) dL_send_5 ⟨Nat.le_of_ble_eq_true rfl, Nat.le_of_ble_eq_true rfl⟩ (fun ce q9 H locs hP hD hS h1 h2 h3 => ?_)
  replace hP : va_P D vwCl (wL cI cZ cJ ad o f w') H := hP
  replace hD : va_D A (wL cI cZ cJ ad o f w') := hD
  refine vx_catch (name := "java/lang/IllegalStateException") hown [⟨0, 10, 13, 24⟩] ⟨0, 10, 17, 18⟩ [] hT (List.forall_mem_cons.mpr ⟨Or.inr ⟨by decide, "java/lang/IndexOutOfBoundsException", hts _ mw_587, hZ.2.2.2.2.2.2.2.2.2.2 ("java/lang/IllegalStateException", "java/lang/IndexOutOfBoundsException") (by decide +kernel)⟩, (fun _ h => absurd h List.not_mem_nil)⟩) (by decide) (by decide) (hts _ mw_466) (va_Nw.use rfl (hZ.2.2.2.2.2.2.2.2.2.1 "java/lang/IllegalStateException" (by decide +kernel))) h1 h2 h3 ?_
  refine lv_astore (lv' := [(4, .ref q9), (0, .ref (ad 0)), (1, .int p0), (2, .int p1), (3, .ref o)]) hx hb dL_send_17 hl (by decide) rfl (fun ls hl => ?_)
  refine lv_iconst (v := 2) hx hb dL_send_19 (by decide) ?_
  exact cc_retC hx hb hr rfl hQ hK hP hD hS rfl dL_send_20 hlocks

def rL_patrol : Room := { frames := 3, cells := 0, slots := 0, locals := 64 }
def rx_L_patrol : Room := { frames := 9, cells := 1, slots := 6, locals := 152 }
set_option maxHeartbeats 4000000 in
set_option maxRecDepth 100000 in
theorem k_L_patrol (l : Launch) (D : va_G) (cI cZ cJ : ClassId) (ad : Nat → Nat) (o : Nat) (f : Nat → Int64) (u : GS) (p0 : Int32) (p1 : Int32) {r : Int32} {w' : GS} (h : g_X9_patrol u p0 p1 = some (.inl r, w')) : MJ l yL_patrol (wmH yL_patrol cL_patrol 5 (some .int) [(0, 10, 13, 24), (0, 10, 17, 13)]) rL_patrol D [(cI, .int), (cZ, .boolean), (cJ, .long)] (wL cI cZ cJ ad o f u) (wL cI cZ cJ ad o (vp_updL f (0 : Int32).toNatClampNeg r.toInt64) w') [.ref (ad 0), .int p0, .int p1, .ref o] 0 0 0 := by
  intro sz
  refine va_MetW (cc := cL_patrol) (maxL := 5) (ret := some .int) (hh := [(0, 10, 13, 24), (0, 10, 17, 13)]) (by decide) rfl ?_
  intro p e s m args below meth c s₁ B hml hv
  obtain ⟨rfl, hsz, hP, hK, hD0, hZ⟩ := hv
  have hx := B.exec
  have hb := B.bytes
  have hr := B.returns
  have hts0 := atoms_spec (ws := wmH yL_patrol cL_patrol 5 (some .int) [(0, 10, 13, 24), (0, 10, 17, 13)]) B.pre
  have hts : ∀ w ∈ Wall, w.before _ s = true := fun w hw => hts0 w (List.mem_cons_of_mem _ hw)
  have hown : s.vm.findClass RL = some m.cls := findClass_of_methodNamed B.named
  have hlocks := B.notSynchronized
  subst hsz
  have hD := hD0.self (sz := s.heap.size)
  generalize hAe : va_A (wL cI cZ cJ ad o f u) s.heap.size = A at hD hZ ⊢
  have hA : ∀ q : Nat, s.heap.size ≤ q → A q := fun q h => by rw [← hAe]; exact Or.inr h
  have hS : va_S A s.heap s.heap [] := va_S.rf
  have hl := lv_entry ([.ref (ad 0), .int p0, .int p1, .ref o]) (n := 5) (Nat.le_of_ble_eq_true rfl)
  rw [lg_entry_eq]
  generalize (lg_sl ([.ref (ad 0), .int p0, .int p1, .ref o]) ++ List.replicate (5 - (lg_sl ([.ref (ad 0), .int p0, .int p1, .ref o])).length) Slot.unset).toArray = ls at hl ⊢
  replace hl : lv_has ls 5 [(0, .ref (ad 0)), (1, .int p0), (2, .int p1), (3, .ref o)] := hl
  refine w_gen (fun Q hQ => ?_)
  refine lv_aload_n hx hb dL_patrol_0 rfl (lv_at hl 3 rfl) ?_
  refine lv_iconst (v := 0) hx hb dL_patrol_1 (by decide) ?_
  refine lv_aload_n hx hb dL_patrol_2 rfl (lv_at hl 0 rfl) ?_
  refine lv_iload_n hx hb dL_patrol_3 rfl (lv_at hl 1 rfl) ?_
  refine lv_iload_n hx hb dL_patrol_4 rfl (lv_at hl 2 rfl) ?_
  refine cc_iVF (As := [.int p0, .int p1]) (rest := [.int 0, .ref o]) (wr := [(o, .inl (cJ, 1, .inr (.inl f)))]) ⟨hx, hb, hml, hown, hts⟩ (k_X9_patrol l D cI cZ ad u p0 p1 h) (cwV 2 hts (gwV mw_773 mw_774 mw_775 mw_48 mw_776) rfl rfl rfl (by decide +kernel) ⟨Nat.le_of_ble_eq_true rfl, Nat.le_of_ble_eq_true rfl⟩) (hK.sub [0, 1] rfl) hP hD hS hA hZ [1, 2, 3, 4, 5, 6, 7, 8, 9, 10, 11, 12, 13, 14, 15, 16, 17, 18, 19, 20, 21, 22, 23, 24, 25, 26, 27, 28, 29, 30, 31, 32, 33, 34, 35] [0] rfl rfl (by decide) rfl (by decide) (by decide) (ci := 9) (q0 := 0) rfl rfl rfl hl.1 rfl (Nat.le_of_ble_eq_true rfl) dL_patrol_5 ⟨Nat.zero_le _, Nat.zero_le _⟩ (fun H locs hP hD hS => ?_)
  replace hP : va_P D vwCl (wL cI cZ cJ ad o f w') H := hP
  replace hD : va_D A (wL cI cZ cJ ad o f w') := hD
  refine lv_i2l (v := r.toInt64) hx hb dL_patrol_8 rfl ?_
  refine va_last (D := D) hx hb hK hP hD hS 0 2 rfl rfl (by unfold vp_in; decide) dL_patrol_9 (fun H locs hP hD hS => ?_)
  replace hP : va_P D vwCl (wL cI cZ cJ ad o (vp_updL f (0 : Int32).toNatClampNeg r.toInt64) w') H := hP
  replace hD : va_D A (wL cI cZ cJ ad o (vp_updL f (0 : Int32).toNatClampNeg r.toInt64) w') := hD
  refine lv_goto (tgt := 21) hx hb dL_patrol_10 (by decide) ?_
  refine lv_iconst (v := 0) hx hb dL_patrol_21 (by decide) ?_
  exact cc_retC hx hb hr rfl hQ hK hP hD hS rfl dL_patrol_22 hlocks
set_option maxHeartbeats 4000000 in
set_option maxRecDepth 100000 in
theorem kx1_L_patrol (l : Launch) (hl0 : l.stackTraces = false) (D : va_G) (cI cZ cJ : ClassId) (ad : Nat → Nat) (o : Nat) (f : Nat → Int64) (u : GS) (p0 : Int32) (p1 : Int32) {w' : GS} (h : g_X9_patrol u p0 p1 = some (.inr "java/lang/IndexOutOfBoundsException", w')) : MJ l yL_patrol (wmH yL_patrol cL_patrol 5 (some .int) [(0, 10, 13, 24), (0, 10, 17, 13)]) rx_L_patrol D [(cI, .int), (cZ, .boolean), (cJ, .long)] (wL cI cZ cJ ad o f u) (wL cI cZ cJ ad o f w') [.ref (ad 0), .int p0, .int p1, .ref o] 1 1 6 := by
  intro sz
  refine va_MetW (cc := cL_patrol) (maxL := 5) (ret := some .int) (hh := [(0, 10, 13, 24), (0, 10, 17, 13)]) (by decide) rfl ?_
  intro p e s m args below meth c s₁ B hml hv
  obtain ⟨rfl, hsz, hP, hK, hD0, hZ⟩ := hv
  have hx := B.exec
  have hb := B.bytes
  have hr := B.returns
  have hts0 := atoms_spec (ws := wmH yL_patrol cL_patrol 5 (some .int) [(0, 10, 13, 24), (0, 10, 17, 13)]) B.pre
  have hts : ∀ w ∈ Wall, w.before _ s = true := fun w hw => hts0 w (List.mem_cons_of_mem _ hw)
  have hown : s.vm.findClass RL = some m.cls := findClass_of_methodNamed B.named
  have hlocks := B.notSynchronized
  subst hsz
  have hD := hD0.self (sz := s.heap.size)
  generalize hAe : va_A (wL cI cZ cJ ad o f u) s.heap.size = A at hD hZ ⊢
  have hA : ∀ q : Nat, s.heap.size ≤ q → A q := fun q h => by rw [← hAe]; exact Or.inr h
  have hS : va_S A s.heap s.heap [] := va_S.rf
  have hT := vx_table (x := yL_patrol) B (hts0 _ List.mem_cons_self)
  have hl := lv_entry ([.ref (ad 0), .int p0, .int p1, .ref o]) (n := 5) (Nat.le_of_ble_eq_true rfl)
  rw [lg_entry_eq]
  generalize (lg_sl ([.ref (ad 0), .int p0, .int p1, .ref o]) ++ List.replicate (5 - (lg_sl ([.ref (ad 0), .int p0, .int p1, .ref o])).length) Slot.unset).toArray = ls at hl ⊢
  replace hl : lv_has ls 5 [(0, .ref (ad 0)), (1, .int p0), (2, .int p1), (3, .ref o)] := hl
  refine w_gen (fun Q hQ => ?_)
  refine lv_aload_n hx hb dL_patrol_0 rfl (lv_at hl 3 rfl) ?_
  refine lv_iconst (v := 0) hx hb dL_patrol_1 (by decide) ?_
  refine lv_aload_n hx hb dL_patrol_2 rfl (lv_at hl 0 rfl) ?_
  refine lv_iload_n hx hb dL_patrol_3 rfl (lv_at hl 1 rfl) ?_
  refine lv_iload_n hx hb dL_patrol_4 rfl (lv_at hl 2 rfl) ?_
  refine cX_iVF (As := [.int p0, .int p1]) (rest := [.int 0, .ref o]) (wr := [(o, .inl (cJ, 1, .inr (.inl f)))]) ⟨hx, hb, hml, hown, hts⟩ (kx_X9_patrol l hl0 D cI cZ ad u p0 p1 h) (cwV 2 hts (gwV mw_773 mw_774 mw_775 mw_48 mw_776) rfl rfl rfl (by decide +kernel) ⟨Nat.le_of_ble_eq_true rfl, Nat.le_of_ble_eq_true rfl⟩) (hK.sub [0, 1] rfl) hP hD hS hA hZ [1, 2, 3, 4, 5, 6, 7, 8, 9, 10, 11, 12, 13, 14, 15, 16, 17, 18, 19, 20, 21, 22, 23, 24, 25, 26, 27, 28, 29, 30, 31, 32, 33, 34, 35] [0] rfl rfl (by decide) rfl (by decide) (by decide) (ci := 9) (q0 := 0) rfl rfl rfl hl.1 rfl (Nat.le_of_ble_eq_true rfl) dL_patrol_5 ⟨Nat.le_of_ble_eq_true rfl, Nat.le_of_ble_eq_true rfl⟩ (fun ce q9 H locs hP hD hS h1 h2 h3 => ?_)
  replace hP : va_P D vwCl (wL cI cZ cJ ad o f w') H := hP
  replace hD : va_D A (wL cI cZ cJ ad o f w') := hD
  refine vx_catch (name := "java/lang/IndexOutOfBoundsException") hown [] ⟨0, 10, 13, 24⟩ [⟨0, 10, 17, 13⟩] hT (fun _ h => absurd h List.not_mem_nil) (by decide) (by decide) (hts _ mw_587) (va_Nw.use rfl (hZ.2.2.2.2.2.2.2.2.2.1 "java/lang/IndexOutOfBoundsException" (by decide +kernel))) h1 h2 h3 ?_
  refine lv_astore (lv' := [(4, .ref q9), (0, .ref (ad 0)), (1, .int p0), (2, .int p1), (3, .ref o)]) hx hb dL_patrol_13 hl (by decide) rfl (fun ls hl => ?_)
  refine lv_iconst (v := 1) hx hb dL_patrol_15 (by decide) ?_
  exact cc_retC hx hb hr rfl hQ hK hP hD hS rfl dL_patrol_16 hlocks
set_option maxHeartbeats 4000000 in
set_option maxRecDepth 100000 in
theorem kx2_L_patrol (l : Launch) (hl0 : l.stackTraces = false) (D : va_G) (cI cZ cJ : ClassId) (ad : Nat → Nat) (o : Nat) (f : Nat → Int64) (u : GS) (p0 : Int32) (p1 : Int32) {w' : GS} (h : g_X9_patrol u p0 p1 = some (.inr "java/lang/IllegalArgumentException", w')) : MJ l yL_patrol (wmH yL_patrol cL_patrol 5 (some .int) [(0, 10, 13, 24), (0, 10, 17, 13)]) rx_L_patrol D [(cI, .int), (cZ, .boolean), (cJ, .long)] (wL cI cZ cJ ad o f u) (wL cI cZ cJ ad o f w') [.ref (ad 0), .int p0, .int p1, .ref o] 2 1 6 := by
  intro sz
  refine va_MetW (cc := cL_patrol) (maxL := 5) (ret := some .int) (hh := [(0, 10, 13, 24), (0, 10, 17, 13)]) (by decide) rfl ?_
  intro p e s m args below meth c s₁ B hml hv
  obtain ⟨rfl, hsz, hP, hK, hD0, hZ⟩ := hv
  have hx := B.exec
  have hb := B.bytes
  have hr := B.returns
  have hts0 := atoms_spec (ws := wmH yL_patrol cL_patrol 5 (some .int) [(0, 10, 13, 24), (0, 10, 17, 13)]) B.pre
  have hts : ∀ w ∈ Wall, w.before _ s = true := fun w hw => hts0 w (List.mem_cons_of_mem _ hw)
  have hown : s.vm.findClass RL = some m.cls := findClass_of_methodNamed B.named
  have hlocks := B.notSynchronized
  subst hsz
  have hD := hD0.self (sz := s.heap.size)
  generalize hAe : va_A (wL cI cZ cJ ad o f u) s.heap.size = A at hD hZ ⊢
  have hA : ∀ q : Nat, s.heap.size ≤ q → A q := fun q h => by rw [← hAe]; exact Or.inr h
  have hS : va_S A s.heap s.heap [] := va_S.rf
  have hT := vx_table (x := yL_patrol) B (hts0 _ List.mem_cons_self)
  have hl := lv_entry ([.ref (ad 0), .int p0, .int p1, .ref o]) (n := 5) (Nat.le_of_ble_eq_true rfl)
  rw [lg_entry_eq]
  generalize (lg_sl ([.ref (ad 0), .int p0, .int p1, .ref o]) ++ List.replicate (5 - (lg_sl ([.ref (ad 0), .int p0, .int p1, .ref o])).length) Slot.unset).toArray = ls at hl ⊢
  replace hl : lv_has ls 5 [(0, .ref (ad 0)), (1, .int p0), (2, .int p1), (3, .ref o)] := hl
  refine w_gen (fun Q hQ => ?_)
  refine lv_aload_n hx hb dL_patrol_0 rfl (lv_at hl 3 rfl) ?_
  refine lv_iconst (v := 0) hx hb dL_patrol_1 (by decide) ?_
  refine lv_aload_n hx hb dL_patrol_2 rfl (lv_at hl 0 rfl) ?_
  refine lv_iload_n hx hb dL_patrol_3 rfl (lv_at hl 1 rfl) ?_
  refine lv_iload_n hx hb dL_patrol_4 rfl (lv_at hl 2 rfl) ?_
  refine cX_iVF (As := [.int p0, .int p1]) (rest := [.int 0, .ref o]) (wr := [(o, .inl (cJ, 1, .inr (.inl f)))]) ⟨hx, hb, hml, hown, hts⟩ (kx_X9_patrol l hl0 D cI cZ ad u p0 p1 h) (cwV 2 hts (gwV mw_773 mw_774 mw_775 mw_48 mw_776) rfl rfl rfl (by decide +kernel) ⟨Nat.le_of_ble_eq_true rfl, Nat.le_of_ble_eq_true rfl⟩) (hK.sub [0, 1] rfl) hP hD hS hA hZ [1, 2, 3, 4, 5, 6, 7, 8, 9, 10, 11, 12, 13, 14, 15, 16, 17, 18, 19, 20, 21, 22, 23, 24, 25, 26, 27, 28, 29, 30, 31, 32, 33, 34, 35] [0] rfl rfl (by decide) rfl (by decide) (by decide) (ci := 9) (q0 := 0) rfl rfl rfl hl.1 rfl (Nat.le_of_ble_eq_true rfl) dL_patrol_5 ⟨Nat.le_of_ble_eq_true rfl, Nat.le_of_ble_eq_true rfl⟩ (fun ce q9 H locs hP hD hS h1 h2 h3 => ?_)
  replace hP : va_P D vwCl (wL cI cZ cJ ad o f w') H := hP
  replace hD : va_D A (wL cI cZ cJ ad o f w') := hD
  refine vx_catch (name := "java/lang/IllegalArgumentException") hown [⟨0, 10, 13, 24⟩] ⟨0, 10, 17, 13⟩ [] hT (List.forall_mem_cons.mpr ⟨Or.inr ⟨by decide, "java/lang/IndexOutOfBoundsException", hts _ mw_587, hZ.2.2.2.2.2.2.2.2.2.2 ("java/lang/IllegalArgumentException", "java/lang/IndexOutOfBoundsException") (by decide +kernel)⟩, (fun _ h => absurd h List.not_mem_nil)⟩) (by decide) (by decide) (hts _ mw_386) (va_Nw.use rfl (hZ.2.2.2.2.2.2.2.2.2.1 "java/lang/IllegalArgumentException" (by decide +kernel))) h1 h2 h3 ?_
  refine lv_astore (lv' := [(4, .ref q9), (0, .ref (ad 0)), (1, .int p0), (2, .int p1), (3, .ref o)]) hx hb dL_patrol_17 hl (by decide) rfl (fun ls hl => ?_)
  refine lv_iconst (v := 2) hx hb dL_patrol_19 (by decide) ?_
  exact cc_retC hx hb hr rfl hQ hK hP hD hS rfl dL_patrol_20 hlocks

def rL_works : Room := { frames := 4, cells := 0, slots := 0, locals := 95 }
def rx_L_works : Room := { frames := 8, cells := 1, slots := 6, locals := 135 }
set_option maxHeartbeats 4000000 in
set_option maxRecDepth 100000 in
theorem k_L_works (l : Launch) (D : va_G) (cI cZ cJ : ClassId) (ad : Nat → Nat) (o : Nat) (f : Nat → Int64) (u : GS) (p0 : Int32) (p1 : Int32) (p2 : Int32) (p3 : Int32) (p4 : Int32) {r : Int32} {w' : GS} (h : g_X9_works u p0 p1 p2 p3 p4 = some (.inl r, w')) : MJ l yL_works (wmH yL_works cL_works 8 (some .int) [(0, 16, 19, 24), (0, 16, 23, 13), (0, 16, 27, 18)]) rL_works D [(cI, .int), (cZ, .boolean), (cJ, .long)] (wL cI cZ cJ ad o f u) (wL cI cZ cJ ad o (vp_updL f (0 : Int32).toNatClampNeg r.toInt64) w') [.ref (ad 0), .int p0, .int p1, .int p2, .int p3, .int p4, .ref o] 0 0 0 := by
  intro sz
  refine va_MetW (cc := cL_works) (maxL := 8) (ret := some .int) (hh := [(0, 16, 19, 24), (0, 16, 23, 13), (0, 16, 27, 18)]) (by decide) rfl ?_
  intro p e s m args below meth c s₁ B hml hv
  obtain ⟨rfl, hsz, hP, hK, hD0, hZ⟩ := hv
  have hx := B.exec
  have hb := B.bytes
  have hr := B.returns
  have hts0 := atoms_spec (ws := wmH yL_works cL_works 8 (some .int) [(0, 16, 19, 24), (0, 16, 23, 13), (0, 16, 27, 18)]) B.pre
  have hts : ∀ w ∈ Wall, w.before _ s = true := fun w hw => hts0 w (List.mem_cons_of_mem _ hw)
  have hown : s.vm.findClass RL = some m.cls := findClass_of_methodNamed B.named
  have hlocks := B.notSynchronized
  subst hsz
  have hD := hD0.self (sz := s.heap.size)
  generalize hAe : va_A (wL cI cZ cJ ad o f u) s.heap.size = A at hD hZ ⊢
  have hA : ∀ q : Nat, s.heap.size ≤ q → A q := fun q h => by rw [← hAe]; exact Or.inr h
  have hS : va_S A s.heap s.heap [] := va_S.rf
  have hl := lv_entry ([.ref (ad 0), .int p0, .int p1, .int p2, .int p3, .int p4, .ref o]) (n := 8) (Nat.le_of_ble_eq_true rfl)
  rw [lg_entry_eq]
  generalize (lg_sl ([.ref (ad 0), .int p0, .int p1, .int p2, .int p3, .int p4, .ref o]) ++ List.replicate (8 - (lg_sl ([.ref (ad 0), .int p0, .int p1, .int p2, .int p3, .int p4, .ref o])).length) Slot.unset).toArray = ls at hl ⊢
  replace hl : lv_has ls 8 [(0, .ref (ad 0)), (1, .int p0), (2, .int p1), (3, .int p2), (4, .int p3), (5, .int p4), (6, .ref o)] := hl
  refine w_gen (fun Q hQ => ?_)
  refine lv_aload hx hb dL_works_0 (lv_at hl 6 rfl) ?_
  refine lv_iconst (v := 0) hx hb dL_works_2 (by decide) ?_
  refine lv_aload_n hx hb dL_works_3 rfl (lv_at hl 0 rfl) ?_
  refine lv_iload_n hx hb dL_works_4 rfl (lv_at hl 1 rfl) ?_
  refine lv_iload_n hx hb dL_works_5 rfl (lv_at hl 2 rfl) ?_
  refine lv_iload_n hx hb dL_works_6 rfl (lv_at hl 3 rfl) ?_
  refine lv_iload hx hb dL_works_7 (lv_at hl 4 rfl) ?_
  refine lv_iload hx hb dL_works_9 (lv_at hl 5 rfl) ?_
  refine cc_iVF (As := [.int p0, .int p1, .int p2, .int p3, .int p4]) (rest := [.int 0, .ref o]) (wr := [(o, .inl (cJ, 1, .inr (.inl f)))]) ⟨hx, hb, hml, hown, hts⟩ (k_X9_works l D cI cZ ad u p0 p1 p2 p3 p4 h) (cwV 5 hts (gwV mw_780 mw_781 mw_782 mw_48 mw_783) rfl rfl rfl (by decide +kernel) ⟨Nat.le_of_ble_eq_true rfl, Nat.le_of_ble_eq_true rfl⟩) (hK.sub [0, 1] rfl) hP hD hS hA hZ [1, 2, 3, 4, 5, 6, 7, 8, 9, 10, 11, 12, 13, 14, 15, 16, 17, 18, 19, 20, 21, 22, 23, 24, 25, 26, 27, 28, 29, 30, 31, 32, 33, 34, 35] [0] rfl rfl (by decide) rfl (by decide) (by decide) (ci := 9) (q0 := 0) rfl rfl rfl hl.1 rfl (Nat.le_of_ble_eq_true rfl) dL_works_11 ⟨Nat.zero_le _, Nat.zero_le _⟩ (fun H locs hP hD hS => ?_)
  replace hP : va_P D vwCl (wL cI cZ cJ ad o f w') H := hP
  replace hD : va_D A (wL cI cZ cJ ad o f w') := hD
  refine lv_i2l (v := r.toInt64) hx hb dL_works_14 rfl ?_
  refine va_last (D := D) hx hb hK hP hD hS 0 2 rfl rfl (by unfold vp_in; decide) dL_works_15 (fun H locs hP hD hS => ?_)
  replace hP : va_P D vwCl (wL cI cZ cJ ad o (vp_updL f (0 : Int32).toNatClampNeg r.toInt64) w') H := hP
  replace hD : va_D A (wL cI cZ cJ ad o (vp_updL f (0 : Int32).toNatClampNeg r.toInt64) w') := hD
  refine lv_goto (tgt := 31) hx hb dL_works_16 (by decide) ?_
  refine lv_iconst (v := 0) hx hb dL_works_31 (by decide) ?_
  exact cc_retC hx hb hr rfl hQ hK hP hD hS rfl dL_works_32 hlocks
set_option maxHeartbeats 4000000 in
set_option maxRecDepth 100000 in
theorem kx1_L_works (l : Launch) (hl0 : l.stackTraces = false) (D : va_G) (cI cZ cJ : ClassId) (ad : Nat → Nat) (o : Nat) (f : Nat → Int64) (u : GS) (p0 : Int32) (p1 : Int32) (p2 : Int32) (p3 : Int32) (p4 : Int32) {w' : GS} (h : g_X9_works u p0 p1 p2 p3 p4 = some (.inr "java/lang/IndexOutOfBoundsException", w')) : MJ l yL_works (wmH yL_works cL_works 8 (some .int) [(0, 16, 19, 24), (0, 16, 23, 13), (0, 16, 27, 18)]) rx_L_works D [(cI, .int), (cZ, .boolean), (cJ, .long)] (wL cI cZ cJ ad o f u) (wL cI cZ cJ ad o f w') [.ref (ad 0), .int p0, .int p1, .int p2, .int p3, .int p4, .ref o] 1 1 6 := by
  intro sz
  refine va_MetW (cc := cL_works) (maxL := 8) (ret := some .int) (hh := [(0, 16, 19, 24), (0, 16, 23, 13), (0, 16, 27, 18)]) (by decide) rfl ?_
  intro p e s m args below meth c s₁ B hml hv
  obtain ⟨rfl, hsz, hP, hK, hD0, hZ⟩ := hv
  have hx := B.exec
  have hb := B.bytes
  have hr := B.returns
  have hts0 := atoms_spec (ws := wmH yL_works cL_works 8 (some .int) [(0, 16, 19, 24), (0, 16, 23, 13), (0, 16, 27, 18)]) B.pre
  have hts : ∀ w ∈ Wall, w.before _ s = true := fun w hw => hts0 w (List.mem_cons_of_mem _ hw)
  have hown : s.vm.findClass RL = some m.cls := findClass_of_methodNamed B.named
  have hlocks := B.notSynchronized
  subst hsz
  have hD := hD0.self (sz := s.heap.size)
  generalize hAe : va_A (wL cI cZ cJ ad o f u) s.heap.size = A at hD hZ ⊢
  have hA : ∀ q : Nat, s.heap.size ≤ q → A q := fun q h => by rw [← hAe]; exact Or.inr h
  have hS : va_S A s.heap s.heap [] := va_S.rf
  have hT := vx_table (x := yL_works) B (hts0 _ List.mem_cons_self)
  have hl := lv_entry ([.ref (ad 0), .int p0, .int p1, .int p2, .int p3, .int p4, .ref o]) (n := 8) (Nat.le_of_ble_eq_true rfl)
  rw [lg_entry_eq]
  generalize (lg_sl ([.ref (ad 0), .int p0, .int p1, .int p2, .int p3, .int p4, .ref o]) ++ List.replicate (8 - (lg_sl ([.ref (ad 0), .int p0, .int p1, .int p2, .int p3, .int p4, .ref o])).length) Slot.unset).toArray = ls at hl ⊢
  replace hl : lv_has ls 8 [(0, .ref (ad 0)), (1, .int p0), (2, .int p1), (3, .int p2), (4, .int p3), (5, .int p4), (6, .ref o)] := hl
  refine w_gen (fun Q hQ => ?_)
  refine lv_aload hx hb dL_works_0 (lv_at hl 6 rfl) ?_
  refine lv_iconst (v := 0) hx hb dL_works_2 (by decide) ?_
  refine lv_aload_n hx hb dL_works_3 rfl (lv_at hl 0 rfl) ?_
  refine lv_iload_n hx hb dL_works_4 rfl (lv_at hl 1 rfl) ?_
  refine lv_iload_n hx hb dL_works_5 rfl (lv_at hl 2 rfl) ?_
  refine lv_iload_n hx hb dL_works_6 rfl (lv_at hl 3 rfl) ?_
  refine lv_iload hx hb dL_works_7 (lv_at hl 4 rfl) ?_
  refine lv_iload hx hb dL_works_9 (lv_at hl 5 rfl) ?_
  refine cX_iVF (As := [.int p0, .int p1, .int p2, .int p3, .int p4]) (rest := [.int 0, .ref o]) (wr := [(o, .inl (cJ, 1, .inr (.inl f)))]) ⟨hx, hb, hml, hown, hts⟩ (kx_X9_works l hl0 D cI cZ ad u p0 p1 p2 p3 p4 h) (cwV 5 hts (gwV mw_780 mw_781 mw_782 mw_48 mw_783) rfl rfl rfl (by decide +kernel) ⟨Nat.le_of_ble_eq_true rfl, Nat.le_of_ble_eq_true rfl⟩) (hK.sub [0, 1] rfl) hP hD hS hA hZ [1, 2, 3, 4, 5, 6, 7, 8, 9, 10, 11, 12, 13, 14, 15, 16, 17, 18, 19, 20, 21, 22, 23, 24, 25, 26, 27, 28, 29, 30, 31, 32, 33, 34, 35] [0] rfl rfl (by decide) rfl (by decide) (by decide) (ci := 9) (q0 := 0) rfl rfl rfl hl.1 rfl (Nat.le_of_ble_eq_true rfl) dL_works_11 ⟨Nat.le_of_ble_eq_true rfl, Nat.le_of_ble_eq_true rfl⟩ (fun ce q9 H locs hP hD hS h1 h2 h3 => ?_)
  replace hP : va_P D vwCl (wL cI cZ cJ ad o f w') H := hP
  replace hD : va_D A (wL cI cZ cJ ad o f w') := hD
  refine vx_catch (name := "java/lang/IndexOutOfBoundsException") hown [] ⟨0, 16, 19, 24⟩ [⟨0, 16, 23, 13⟩, ⟨0, 16, 27, 18⟩] hT (fun _ h => absurd h List.not_mem_nil) (by decide) (by decide) (hts _ mw_587) (va_Nw.use rfl (hZ.2.2.2.2.2.2.2.2.2.1 "java/lang/IndexOutOfBoundsException" (by decide +kernel))) h1 h2 h3 ?_
  refine lv_astore (lv' := [(7, .ref q9), (0, .ref (ad 0)), (1, .int p0), (2, .int p1), (3, .int p2), (4, .int p3), (5, .int p4), (6, .ref o)]) hx hb dL_works_19 hl (by decide) rfl (fun ls hl => ?_)
  refine lv_iconst (v := 1) hx hb dL_works_21 (by decide) ?_
  exact cc_retC hx hb hr rfl hQ hK hP hD hS rfl dL_works_22 hlocks
set_option maxHeartbeats 4000000 in
set_option maxRecDepth 100000 in
theorem kx2_L_works (l : Launch) (hl0 : l.stackTraces = false) (D : va_G) (cI cZ cJ : ClassId) (ad : Nat → Nat) (o : Nat) (f : Nat → Int64) (u : GS) (p0 : Int32) (p1 : Int32) (p2 : Int32) (p3 : Int32) (p4 : Int32) {w' : GS} (h : g_X9_works u p0 p1 p2 p3 p4 = some (.inr "java/lang/IllegalArgumentException", w')) : MJ l yL_works (wmH yL_works cL_works 8 (some .int) [(0, 16, 19, 24), (0, 16, 23, 13), (0, 16, 27, 18)]) rx_L_works D [(cI, .int), (cZ, .boolean), (cJ, .long)] (wL cI cZ cJ ad o f u) (wL cI cZ cJ ad o f w') [.ref (ad 0), .int p0, .int p1, .int p2, .int p3, .int p4, .ref o] 2 1 6 := by
  intro sz
  refine va_MetW (cc := cL_works) (maxL := 8) (ret := some .int) (hh := [(0, 16, 19, 24), (0, 16, 23, 13), (0, 16, 27, 18)]) (by decide) rfl ?_
  intro p e s m args below meth c s₁ B hml hv
  obtain ⟨rfl, hsz, hP, hK, hD0, hZ⟩ := hv
  have hx := B.exec
  have hb := B.bytes
  have hr := B.returns
  have hts0 := atoms_spec (ws := wmH yL_works cL_works 8 (some .int) [(0, 16, 19, 24), (0, 16, 23, 13), (0, 16, 27, 18)]) B.pre
  have hts : ∀ w ∈ Wall, w.before _ s = true := fun w hw => hts0 w (List.mem_cons_of_mem _ hw)
  have hown : s.vm.findClass RL = some m.cls := findClass_of_methodNamed B.named
  have hlocks := B.notSynchronized
  subst hsz
  have hD := hD0.self (sz := s.heap.size)
  generalize hAe : va_A (wL cI cZ cJ ad o f u) s.heap.size = A at hD hZ ⊢
  have hA : ∀ q : Nat, s.heap.size ≤ q → A q := fun q h => by rw [← hAe]; exact Or.inr h
  have hS : va_S A s.heap s.heap [] := va_S.rf
  have hT := vx_table (x := yL_works) B (hts0 _ List.mem_cons_self)
  have hl := lv_entry ([.ref (ad 0), .int p0, .int p1, .int p2, .int p3, .int p4, .ref o]) (n := 8) (Nat.le_of_ble_eq_true rfl)
  rw [lg_entry_eq]
  generalize (lg_sl ([.ref (ad 0), .int p0, .int p1, .int p2, .int p3, .int p4, .ref o]) ++ List.replicate (8 - (lg_sl ([.ref (ad 0), .int p0, .int p1, .int p2, .int p3, .int p4, .ref o])).length) Slot.unset).toArray = ls at hl ⊢
  replace hl : lv_has ls 8 [(0, .ref (ad 0)), (1, .int p0), (2, .int p1), (3, .int p2), (4, .int p3), (5, .int p4), (6, .ref o)] := hl
  refine w_gen (fun Q hQ => ?_)
  refine lv_aload hx hb dL_works_0 (lv_at hl 6 rfl) ?_
  refine lv_iconst (v := 0) hx hb dL_works_2 (by decide) ?_
  refine lv_aload_n hx hb dL_works_3 rfl (lv_at hl 0 rfl) ?_
  refine lv_iload_n hx hb dL_works_4 rfl (lv_at hl 1 rfl) ?_
  refine lv_iload_n hx hb dL_works_5 rfl (lv_at hl 2 rfl) ?_
  refine lv_iload_n hx hb dL_works_6 rfl (lv_at hl 3 rfl) ?_
  refine lv_iload hx hb dL_works_7 (lv_at hl 4 rfl) ?_
  refine lv_iload hx hb dL_works_9 (lv_at hl 5 rfl) ?_
  refine cX_iVF (As := [.int p0, .int p1, .int p2, .int p3, .int p4]) (rest := [.int 0, .ref o]) (wr := [(o, .inl (cJ, 1, .inr (.inl f)))]) ⟨hx, hb, hml, hown, hts⟩ (kx_X9_works l hl0 D cI cZ ad u p0 p1 p2 p3 p4 h) (cwV 5 hts (gwV mw_780 mw_781 mw_782 mw_48 mw_783) rfl rfl rfl (by decide +kernel) ⟨Nat.le_of_ble_eq_true rfl, Nat.le_of_ble_eq_true rfl⟩) (hK.sub [0, 1] rfl) hP hD hS hA hZ [1, 2, 3, 4, 5, 6, 7, 8, 9, 10, 11, 12, 13, 14, 15, 16, 17, 18, 19, 20, 21, 22, 23, 24, 25, 26, 27, 28, 29, 30, 31, 32, 33, 34, 35] [0] rfl rfl (by decide) rfl (by decide) (by decide) (ci := 9) (q0 := 0) rfl rfl rfl hl.1 rfl (Nat.le_of_ble_eq_true rfl) dL_works_11 ⟨Nat.le_of_ble_eq_true rfl, Nat.le_of_ble_eq_true rfl⟩ (fun ce q9 H locs hP hD hS h1 h2 h3 => ?_)
  replace hP : va_P D vwCl (wL cI cZ cJ ad o f w') H := hP
  replace hD : va_D A (wL cI cZ cJ ad o f w') := hD
  refine vx_catch (name := "java/lang/IllegalArgumentException") hown [⟨0, 16, 19, 24⟩] ⟨0, 16, 23, 13⟩ [⟨0, 16, 27, 18⟩] hT (List.forall_mem_cons.mpr ⟨Or.inr ⟨by decide, "java/lang/IndexOutOfBoundsException", hts _ mw_587, hZ.2.2.2.2.2.2.2.2.2.2 ("java/lang/IllegalArgumentException", "java/lang/IndexOutOfBoundsException") (by decide +kernel)⟩, (fun _ h => absurd h List.not_mem_nil)⟩) (by decide) (by decide) (hts _ mw_386) (va_Nw.use rfl (hZ.2.2.2.2.2.2.2.2.2.1 "java/lang/IllegalArgumentException" (by decide +kernel))) h1 h2 h3 ?_
  refine lv_astore (lv' := [(7, .ref q9), (0, .ref (ad 0)), (1, .int p0), (2, .int p1), (3, .int p2), (4, .int p3), (5, .int p4), (6, .ref o)]) hx hb dL_works_23 hl (by decide) rfl (fun ls hl => ?_)
  refine lv_iconst (v := 2) hx hb dL_works_25 (by decide) ?_
  exact cc_retC hx hb hr rfl hQ hK hP hD hS rfl dL_works_26 hlocks
set_option maxHeartbeats 4000000 in
set_option maxRecDepth 100000 in
theorem kx3_L_works (l : Launch) (hl0 : l.stackTraces = false) (D : va_G) (cI cZ cJ : ClassId) (ad : Nat → Nat) (o : Nat) (f : Nat → Int64) (u : GS) (p0 : Int32) (p1 : Int32) (p2 : Int32) (p3 : Int32) (p4 : Int32) {w' : GS} (h : g_X9_works u p0 p1 p2 p3 p4 = some (.inr "java/lang/IllegalStateException", w')) : MJ l yL_works (wmH yL_works cL_works 8 (some .int) [(0, 16, 19, 24), (0, 16, 23, 13), (0, 16, 27, 18)]) rx_L_works D [(cI, .int), (cZ, .boolean), (cJ, .long)] (wL cI cZ cJ ad o f u) (wL cI cZ cJ ad o f w') [.ref (ad 0), .int p0, .int p1, .int p2, .int p3, .int p4, .ref o] 3 1 6 := by
  intro sz
  refine va_MetW (cc := cL_works) (maxL := 8) (ret := some .int) (hh := [(0, 16, 19, 24), (0, 16, 23, 13), (0, 16, 27, 18)]) (by decide) rfl ?_
  intro p e s m args below meth c s₁ B hml hv
  obtain ⟨rfl, hsz, hP, hK, hD0, hZ⟩ := hv
  have hx := B.exec
  have hb := B.bytes
  have hr := B.returns
  have hts0 := atoms_spec (ws := wmH yL_works cL_works 8 (some .int) [(0, 16, 19, 24), (0, 16, 23, 13), (0, 16, 27, 18)]) B.pre
  have hts : ∀ w ∈ Wall, w.before _ s = true := fun w hw => hts0 w (List.mem_cons_of_mem _ hw)
  have hown : s.vm.findClass RL = some m.cls := findClass_of_methodNamed B.named
  have hlocks := B.notSynchronized
  subst hsz
  have hD := hD0.self (sz := s.heap.size)
  generalize hAe : va_A (wL cI cZ cJ ad o f u) s.heap.size = A at hD hZ ⊢
  have hA : ∀ q : Nat, s.heap.size ≤ q → A q := fun q h => by rw [← hAe]; exact Or.inr h
  have hS : va_S A s.heap s.heap [] := va_S.rf
  have hT := vx_table (x := yL_works) B (hts0 _ List.mem_cons_self)
  have hl := lv_entry ([.ref (ad 0), .int p0, .int p1, .int p2, .int p3, .int p4, .ref o]) (n := 8) (Nat.le_of_ble_eq_true rfl)
  rw [lg_entry_eq]
  generalize (lg_sl ([.ref (ad 0), .int p0, .int p1, .int p2, .int p3, .int p4, .ref o]) ++ List.replicate (8 - (lg_sl ([.ref (ad 0), .int p0, .int p1, .int p2, .int p3, .int p4, .ref o])).length) Slot.unset).toArray = ls at hl ⊢
  replace hl : lv_has ls 8 [(0, .ref (ad 0)), (1, .int p0), (2, .int p1), (3, .int p2), (4, .int p3), (5, .int p4), (6, .ref o)] := hl
  refine w_gen (fun Q hQ => ?_)
  refine lv_aload hx hb dL_works_0 (lv_at hl 6 rfl) ?_
  refine lv_iconst (v := 0) hx hb dL_works_2 (by decide) ?_
  refine lv_aload_n hx hb dL_works_3 rfl (lv_at hl 0 rfl) ?_
  refine lv_iload_n hx hb dL_works_4 rfl (lv_at hl 1 rfl) ?_
  refine lv_iload_n hx hb dL_works_5 rfl (lv_at hl 2 rfl) ?_
  refine lv_iload_n hx hb dL_works_6 rfl (lv_at hl 3 rfl) ?_
  refine lv_iload hx hb dL_works_7 (lv_at hl 4 rfl) ?_
  refine lv_iload hx hb dL_works_9 (lv_at hl 5 rfl) ?_
  refine cX_iVF (As := [.int p0, .int p1, .int p2, .int p3, .int p4]) (rest := [.int 0, .ref o]) (wr := [(o, .inl (cJ, 1, .inr (.inl f)))]) ⟨hx, hb, hml, hown, hts⟩ (kx_X9_works l hl0 D cI cZ ad u p0 p1 p2 p3 p4 h) (cwV 5 hts (gwV mw_780 mw_781 mw_782 mw_48 mw_783) rfl rfl rfl (by decide +kernel) ⟨Nat.le_of_ble_eq_true rfl, Nat.le_of_ble_eq_true rfl⟩) (hK.sub [0, 1] rfl) hP hD hS hA hZ [1, 2, 3, 4, 5, 6, 7, 8, 9, 10, 11, 12, 13, 14, 15, 16, 17, 18, 19, 20, 21, 22, 23, 24, 25, 26, 27, 28, 29, 30, 31, 32, 33, 34, 35] [0] rfl rfl (by decide) rfl (by decide) (by decide) (ci := 9) (q0 := 0) rfl rfl rfl hl.1 rfl (Nat.le_of_ble_eq_true rfl) dL_works_11 ⟨Nat.le_of_ble_eq_true rfl, Nat.le_of_ble_eq_true rfl⟩ (fun ce q9 H locs hP hD hS h1 h2 h3 => ?_)
  replace hP : va_P D vwCl (wL cI cZ cJ ad o f w') H := hP
  replace hD : va_D A (wL cI cZ cJ ad o f w') := hD
  refine vx_catch (name := "java/lang/IllegalStateException") hown [⟨0, 16, 19, 24⟩, ⟨0, 16, 23, 13⟩] ⟨0, 16, 27, 18⟩ [] hT (List.forall_mem_cons.mpr ⟨Or.inr ⟨by decide, "java/lang/IndexOutOfBoundsException", hts _ mw_587, hZ.2.2.2.2.2.2.2.2.2.2 ("java/lang/IllegalStateException", "java/lang/IndexOutOfBoundsException") (by decide +kernel)⟩, (List.forall_mem_cons.mpr ⟨Or.inr ⟨by decide, "java/lang/IllegalArgumentException", hts _ mw_386, hZ.2.2.2.2.2.2.2.2.2.2 ("java/lang/IllegalStateException", "java/lang/IllegalArgumentException") (by decide +kernel)⟩, (fun _ h => absurd h List.not_mem_nil)⟩)⟩) (by decide) (by decide) (hts _ mw_466) (va_Nw.use rfl (hZ.2.2.2.2.2.2.2.2.2.1 "java/lang/IllegalStateException" (by decide +kernel))) h1 h2 h3 ?_
  refine lv_astore (lv' := [(7, .ref q9), (0, .ref (ad 0)), (1, .int p0), (2, .int p1), (3, .int p2), (4, .int p3), (5, .int p4), (6, .ref o)]) hx hb dL_works_27 hl (by decide) rfl (fun ls hl => ?_)
  refine lv_iconst (v := 3) hx hb dL_works_29 (by decide) ?_
  exact cc_retC hx hb hr rfl hQ hK hP hD hS rfl dL_works_30 hlocks

def rL_isOn : Room := { frames := 3, cells := 0, slots := 0, locals := 65 }
def rx_L_isOn : Room := { frames := 8, cells := 1, slots := 6, locals := 131 }
set_option maxHeartbeats 4000000 in
set_option maxRecDepth 100000 in
theorem k_L_isOn (l : Launch) (D : va_G) (cI cZ cJ : ClassId) (ad : Nat → Nat) (o : Nat) (f : Nat → Int64) (u : GS) (p0 : Int32) {r : Int32} {w' : GS} (h : g_X9_isOn u p0 = some (.inl r, w')) : MJ l yL_isOn (wmH yL_isOn cL_isOn 4 (some .int) [(0, 16, 19, 24)]) rL_isOn D [(cI, .int), (cZ, .boolean), (cJ, .long)] (wL cI cZ cJ ad o f u) (wL cI cZ cJ ad o (vp_updL f (0 : Int32).toNatClampNeg (if r = 0 then 0 else 1)) w') [.ref (ad 0), .int p0, .ref o] 0 0 0 := by
  intro sz
  refine va_MetW (cc := cL_isOn) (maxL := 4) (ret := some .int) (hh := [(0, 16, 19, 24)]) (by decide) rfl ?_
  intro p e s m args below meth c s₁ B hml hv
  obtain ⟨rfl, hsz, hP, hK, hD0, hZ⟩ := hv
  have hx := B.exec
  have hb := B.bytes
  have hr := B.returns
  have hts0 := atoms_spec (ws := wmH yL_isOn cL_isOn 4 (some .int) [(0, 16, 19, 24)]) B.pre
  have hts : ∀ w ∈ Wall, w.before _ s = true := fun w hw => hts0 w (List.mem_cons_of_mem _ hw)
  have hown : s.vm.findClass RL = some m.cls := findClass_of_methodNamed B.named
  have hlocks := B.notSynchronized
  subst hsz
  have hD := hD0.self (sz := s.heap.size)
  generalize hAe : va_A (wL cI cZ cJ ad o f u) s.heap.size = A at hD hZ ⊢
  have hA : ∀ q : Nat, s.heap.size ≤ q → A q := fun q h => by rw [← hAe]; exact Or.inr h
  have hS : va_S A s.heap s.heap [] := va_S.rf
  have hl := lv_entry ([.ref (ad 0), .int p0, .ref o]) (n := 4) (Nat.le_of_ble_eq_true rfl)
  rw [lg_entry_eq]
  generalize (lg_sl ([.ref (ad 0), .int p0, .ref o]) ++ List.replicate (4 - (lg_sl ([.ref (ad 0), .int p0, .ref o])).length) Slot.unset).toArray = ls at hl ⊢
  replace hl : lv_has ls 4 [(0, .ref (ad 0)), (1, .int p0), (2, .ref o)] := hl
  refine w_gen (fun Q hQ => ?_)
  refine lv_aload_n hx hb dL_isOn_0 rfl (lv_at hl 2 rfl) ?_
  refine lv_iconst (v := 0) hx hb dL_isOn_1 (by decide) ?_
  refine lv_aload_n hx hb dL_isOn_2 rfl (lv_at hl 0 rfl) ?_
  refine lv_iload_n hx hb dL_isOn_3 rfl (lv_at hl 1 rfl) ?_
  refine cc_iVF (As := [.int p0]) (rest := [.int 0, .ref o]) (wr := [(o, .inl (cJ, 1, .inr (.inl f)))]) ⟨hx, hb, hml, hown, hts⟩ (k_X9_isOn l D cI cZ ad u p0 h) (cwV 1 hts (gwV mw_807 mw_808 mw_809 mw_48 mw_810) rfl rfl rfl (by decide +kernel) ⟨Nat.le_of_ble_eq_true rfl, Nat.le_of_ble_eq_true rfl⟩) (hK.sub [0, 1] rfl) hP hD hS hA hZ [1, 2, 3, 4, 5, 6, 7, 8, 9, 10, 11, 12, 13, 14, 15, 16, 17, 18, 19, 20, 21, 22, 23, 24, 25, 26, 27, 28, 29, 30, 31, 32, 33, 34, 35] [0] rfl rfl (by decide) rfl (by decide) (by decide) (ci := 9) (q0 := 0) rfl rfl rfl hl.1 rfl (Nat.le_of_ble_eq_true rfl) dL_isOn_4 ⟨Nat.zero_le _, Nat.zero_le _⟩ (fun H locs hP hD hS => ?_)
  replace hP : va_P D vwCl (wL cI cZ cJ ad o f w') H := hP
  replace hD : va_D A (wL cI cZ cJ ad o f w') := hD
  refine lv_if_eq (tgt := 14) hx hb dL_isOn_7 (by decide) (fun c1 => ?_) (fun c1 => ?_)
  · refine lv_lconst (v := 0) hx hb dL_isOn_14 (by decide) ?_
    refine va_last (D := D) hx hb hK hP hD hS 0 2 rfl rfl (by unfold vp_in; decide) dL_isOn_15 (fun H locs hP hD hS => ?_)
    replace hP : va_P D vwCl (wL cI cZ cJ ad o (vp_updL f (0 : Int32).toNatClampNeg (if r = 0 then 0 else 1)) w') H := by rw [if_pos c1]; exact hP
    replace hD : va_D A (wL cI cZ cJ ad o (vp_updL f (0 : Int32).toNatClampNeg (if r = 0 then 0 else 1)) w') := by rw [if_pos c1]; exact hD
    refine lv_goto (tgt := 22) hx hb dL_isOn_16 (by decide) ?_
    refine lv_iconst (v := 0) hx hb dL_isOn_22 (by decide) ?_
    exact cc_retC hx hb hr rfl hQ hK hP hD hS rfl dL_isOn_23 hlocks
  · refine lv_lconst (v := 1) hx hb dL_isOn_10 (by decide) ?_
    refine lv_goto (tgt := 15) hx hb dL_isOn_11 (by decide) ?_
    refine va_last (D := D) hx hb hK hP hD hS 0 2 rfl rfl (by unfold vp_in; decide) dL_isOn_15 (fun H locs hP hD hS => ?_)
    replace hP : va_P D vwCl (wL cI cZ cJ ad o (vp_updL f (0 : Int32).toNatClampNeg (if r = 0 then 0 else 1)) w') H := by rw [if_neg c1]; exact hP
    replace hD : va_D A (wL cI cZ cJ ad o (vp_updL f (0 : Int32).toNatClampNeg (if r = 0 then 0 else 1)) w') := by rw [if_neg c1]; exact hD
    refine lv_goto (tgt := 22) hx hb dL_isOn_16 (by decide) ?_
    refine lv_iconst (v := 0) hx hb dL_isOn_22 (by decide) ?_
    exact cc_retC hx hb hr rfl hQ hK hP hD hS rfl dL_isOn_23 hlocks
set_option maxHeartbeats 4000000 in
set_option maxRecDepth 100000 in
theorem kx1_L_isOn (l : Launch) (hl0 : l.stackTraces = false) (D : va_G) (cI cZ cJ : ClassId) (ad : Nat → Nat) (o : Nat) (f : Nat → Int64) (u : GS) (p0 : Int32) {w' : GS} (h : g_X9_isOn u p0 = some (.inr "java/lang/IndexOutOfBoundsException", w')) : MJ l yL_isOn (wmH yL_isOn cL_isOn 4 (some .int) [(0, 16, 19, 24)]) rx_L_isOn D [(cI, .int), (cZ, .boolean), (cJ, .long)] (wL cI cZ cJ ad o f u) (wL cI cZ cJ ad o f w') [.ref (ad 0), .int p0, .ref o] 1 1 6 := by
  intro sz
  refine va_MetW (cc := cL_isOn) (maxL := 4) (ret := some .int) (hh := [(0, 16, 19, 24)]) (by decide) rfl ?_
  intro p e s m args below meth c s₁ B hml hv
  obtain ⟨rfl, hsz, hP, hK, hD0, hZ⟩ := hv
  have hx := B.exec
  have hb := B.bytes
  have hr := B.returns
  have hts0 := atoms_spec (ws := wmH yL_isOn cL_isOn 4 (some .int) [(0, 16, 19, 24)]) B.pre
  have hts : ∀ w ∈ Wall, w.before _ s = true := fun w hw => hts0 w (List.mem_cons_of_mem _ hw)
  have hown : s.vm.findClass RL = some m.cls := findClass_of_methodNamed B.named
  have hlocks := B.notSynchronized
  subst hsz
  have hD := hD0.self (sz := s.heap.size)
  generalize hAe : va_A (wL cI cZ cJ ad o f u) s.heap.size = A at hD hZ ⊢
  have hA : ∀ q : Nat, s.heap.size ≤ q → A q := fun q h => by rw [← hAe]; exact Or.inr h
  have hS : va_S A s.heap s.heap [] := va_S.rf
  have hT := vx_table (x := yL_isOn) B (hts0 _ List.mem_cons_self)
  have hl := lv_entry ([.ref (ad 0), .int p0, .ref o]) (n := 4) (Nat.le_of_ble_eq_true rfl)
  rw [lg_entry_eq]
  generalize (lg_sl ([.ref (ad 0), .int p0, .ref o]) ++ List.replicate (4 - (lg_sl ([.ref (ad 0), .int p0, .ref o])).length) Slot.unset).toArray = ls at hl ⊢
  replace hl : lv_has ls 4 [(0, .ref (ad 0)), (1, .int p0), (2, .ref o)] := hl
  refine w_gen (fun Q hQ => ?_)
  refine lv_aload_n hx hb dL_isOn_0 rfl (lv_at hl 2 rfl) ?_
  refine lv_iconst (v := 0) hx hb dL_isOn_1 (by decide) ?_
  refine lv_aload_n hx hb dL_isOn_2 rfl (lv_at hl 0 rfl) ?_
  refine lv_iload_n hx hb dL_isOn_3 rfl (lv_at hl 1 rfl) ?_
  refine cX_iVF (As := [.int p0]) (rest := [.int 0, .ref o]) (wr := [(o, .inl (cJ, 1, .inr (.inl f)))]) ⟨hx, hb, hml, hown, hts⟩ (kx_X9_isOn l hl0 D cI cZ ad u p0 h) (cwV 1 hts (gwV mw_807 mw_808 mw_809 mw_48 mw_810) rfl rfl rfl (by decide +kernel) ⟨Nat.le_of_ble_eq_true rfl, Nat.le_of_ble_eq_true rfl⟩) (hK.sub [0, 1] rfl) hP hD hS hA hZ [1, 2, 3, 4, 5, 6, 7, 8, 9, 10, 11, 12, 13, 14, 15, 16, 17, 18, 19, 20, 21, 22, 23, 24, 25, 26, 27, 28, 29, 30, 31, 32, 33, 34, 35] [0] rfl rfl (by decide) rfl (by decide) (by decide) (ci := 9) (q0 := 0) rfl rfl rfl hl.1 rfl (Nat.le_of_ble_eq_true rfl) dL_isOn_4 ⟨Nat.le_of_ble_eq_true rfl, Nat.le_of_ble_eq_true rfl⟩ (fun ce q9 H locs hP hD hS h1 h2 h3 => ?_)
  replace hP : va_P D vwCl (wL cI cZ cJ ad o f w') H := hP
  replace hD : va_D A (wL cI cZ cJ ad o f w') := hD
  refine vx_catch (name := "java/lang/IndexOutOfBoundsException") hown [] ⟨0, 16, 19, 24⟩ [] hT (fun _ h => absurd h List.not_mem_nil) (by decide) (by decide) (hts _ mw_587) (va_Nw.use rfl (hZ.2.2.2.2.2.2.2.2.2.1 "java/lang/IndexOutOfBoundsException" (by decide +kernel))) h1 h2 h3 ?_
  refine lv_astore_n (lv' := [(3, .ref q9), (0, .ref (ad 0)), (1, .int p0), (2, .ref o)]) hx hb dL_isOn_19 rfl hl (by decide) rfl (fun ls hl => ?_)
  refine lv_iconst (v := 1) hx hb dL_isOn_20 (by decide) ?_
  exact cc_retC hx hb hr rfl hQ hK hP hD hS rfl dL_isOn_21 hlocks

def rL_proof : Room := { frames := 4, cells := 0, slots := 0, locals := 89 }
def rx_L_proof : Room := { frames := 9, cells := 1, slots := 6, locals := 153 }
set_option maxHeartbeats 4000000 in
set_option maxRecDepth 100000 in
theorem k_L_proof (l : Launch) (D : va_G) (cI cZ cJ : ClassId) (ad : Nat → Nat) (o : Nat) (f : Nat → Int64) (u : GS) (p0 : Int32) (p1 : Int32) (p2 : Int32) {r : Int32} {w' : GS} (h : g_X9_proof u p0 p1 p2 = some (.inl r, w')) : MJ l yL_proof (wmH yL_proof cL_proof 6 (some .int) [(0, 12, 15, 24), (0, 12, 19, 13), (0, 12, 23, 18)]) rL_proof D [(cI, .int), (cZ, .boolean), (cJ, .long)] (wL cI cZ cJ ad o f u) (wL cI cZ cJ ad o (vp_updL f (0 : Int32).toNatClampNeg r.toInt64) w') [.ref (ad 0), .int p0, .int p1, .int p2, .ref o] 0 0 0 := by
  intro sz
  refine va_MetW (cc := cL_proof) (maxL := 6) (ret := some .int) (hh := [(0, 12, 15, 24), (0, 12, 19, 13), (0, 12, 23, 18)]) (by decide) rfl ?_
  intro p e s m args below meth c s₁ B hml hv
  obtain ⟨rfl, hsz, hP, hK, hD0, hZ⟩ := hv
  have hx := B.exec
  have hb := B.bytes
  have hr := B.returns
  have hts0 := atoms_spec (ws := wmH yL_proof cL_proof 6 (some .int) [(0, 12, 15, 24), (0, 12, 19, 13), (0, 12, 23, 18)]) B.pre
  have hts : ∀ w ∈ Wall, w.before _ s = true := fun w hw => hts0 w (List.mem_cons_of_mem _ hw)
  have hown : s.vm.findClass RL = some m.cls := findClass_of_methodNamed B.named
  have hlocks := B.notSynchronized
  subst hsz
  have hD := hD0.self (sz := s.heap.size)
  generalize hAe : va_A (wL cI cZ cJ ad o f u) s.heap.size = A at hD hZ ⊢
  have hA : ∀ q : Nat, s.heap.size ≤ q → A q := fun q h => by rw [← hAe]; exact Or.inr h
  have hS : va_S A s.heap s.heap [] := va_S.rf
  have hl := lv_entry ([.ref (ad 0), .int p0, .int p1, .int p2, .ref o]) (n := 6) (Nat.le_of_ble_eq_true rfl)
  rw [lg_entry_eq]
  generalize (lg_sl ([.ref (ad 0), .int p0, .int p1, .int p2, .ref o]) ++ List.replicate (6 - (lg_sl ([.ref (ad 0), .int p0, .int p1, .int p2, .ref o])).length) Slot.unset).toArray = ls at hl ⊢
  replace hl : lv_has ls 6 [(0, .ref (ad 0)), (1, .int p0), (2, .int p1), (3, .int p2), (4, .ref o)] := hl
  refine w_gen (fun Q hQ => ?_)
  refine lv_aload hx hb dL_proof_0 (lv_at hl 4 rfl) ?_
  refine lv_iconst (v := 0) hx hb dL_proof_2 (by decide) ?_
  refine lv_aload_n hx hb dL_proof_3 rfl (lv_at hl 0 rfl) ?_
  refine lv_iload_n hx hb dL_proof_4 rfl (lv_at hl 1 rfl) ?_
  refine lv_iload_n hx hb dL_proof_5 rfl (lv_at hl 2 rfl) ?_
  refine lv_iload_n hx hb dL_proof_6 rfl (lv_at hl 3 rfl) ?_
  refine cc_iVF (As := [.int p0, .int p1, .int p2]) (rest := [.int 0, .ref o]) (wr := [(o, .inl (cJ, 1, .inr (.inl f)))]) ⟨hx, hb, hml, hown, hts⟩ (k_X9_proof l D cI cZ ad u p0 p1 p2 h) (cwV 3 hts (gwV mw_815 mw_816 mw_817 mw_48 mw_818) rfl rfl rfl (by decide +kernel) ⟨Nat.le_of_ble_eq_true rfl, Nat.le_of_ble_eq_true rfl⟩) (hK.sub [0, 1] rfl) hP hD hS hA hZ [1, 2, 3, 4, 5, 6, 7, 8, 9, 10, 11, 12, 13, 14, 15, 16, 17, 18, 19, 20, 21, 22, 23, 24, 25, 26, 27, 28, 29, 30, 31, 32, 33, 34, 35] [0] rfl rfl (by decide) rfl (by decide) (by decide) (ci := 9) (q0 := 0) rfl rfl rfl hl.1 rfl (Nat.le_of_ble_eq_true rfl) dL_proof_7 ⟨Nat.zero_le _, Nat.zero_le _⟩ (fun H locs hP hD hS => ?_)
  replace hP : va_P D vwCl (wL cI cZ cJ ad o f w') H := hP
  replace hD : va_D A (wL cI cZ cJ ad o f w') := hD
  refine lv_i2l (v := r.toInt64) hx hb dL_proof_10 rfl ?_
  refine va_last (D := D) hx hb hK hP hD hS 0 2 rfl rfl (by unfold vp_in; decide) dL_proof_11 (fun H locs hP hD hS => ?_)
  replace hP : va_P D vwCl (wL cI cZ cJ ad o (vp_updL f (0 : Int32).toNatClampNeg r.toInt64) w') H := hP
  replace hD : va_D A (wL cI cZ cJ ad o (vp_updL f (0 : Int32).toNatClampNeg r.toInt64) w') := hD
  refine lv_goto (tgt := 27) hx hb dL_proof_12 (by decide) ?_
  refine lv_iconst (v := 0) hx hb dL_proof_27 (by decide) ?_
  exact cc_retC hx hb hr rfl hQ hK hP hD hS rfl dL_proof_28 hlocks
set_option maxHeartbeats 4000000 in
set_option maxRecDepth 100000 in
theorem kx1_L_proof (l : Launch) (hl0 : l.stackTraces = false) (D : va_G) (cI cZ cJ : ClassId) (ad : Nat → Nat) (o : Nat) (f : Nat → Int64) (u : GS) (p0 : Int32) (p1 : Int32) (p2 : Int32) {w' : GS} (h : g_X9_proof u p0 p1 p2 = some (.inr "java/lang/IndexOutOfBoundsException", w')) : MJ l yL_proof (wmH yL_proof cL_proof 6 (some .int) [(0, 12, 15, 24), (0, 12, 19, 13), (0, 12, 23, 18)]) rx_L_proof D [(cI, .int), (cZ, .boolean), (cJ, .long)] (wL cI cZ cJ ad o f u) (wL cI cZ cJ ad o f w') [.ref (ad 0), .int p0, .int p1, .int p2, .ref o] 1 1 6 := by
  intro sz
  refine va_MetW (cc := cL_proof) (maxL := 6) (ret := some .int) (hh := [(0, 12, 15, 24), (0, 12, 19, 13), (0, 12, 23, 18)]) (by decide) rfl ?_
  intro p e s m args below meth c s₁ B hml hv
  obtain ⟨rfl, hsz, hP, hK, hD0, hZ⟩ := hv
  have hx := B.exec
  have hb := B.bytes
  have hr := B.returns
  have hts0 := atoms_spec (ws := wmH yL_proof cL_proof 6 (some .int) [(0, 12, 15, 24), (0, 12, 19, 13), (0, 12, 23, 18)]) B.pre
  have hts : ∀ w ∈ Wall, w.before _ s = true := fun w hw => hts0 w (List.mem_cons_of_mem _ hw)
  have hown : s.vm.findClass RL = some m.cls := findClass_of_methodNamed B.named
  have hlocks := B.notSynchronized
  subst hsz
  have hD := hD0.self (sz := s.heap.size)
  generalize hAe : va_A (wL cI cZ cJ ad o f u) s.heap.size = A at hD hZ ⊢
  have hA : ∀ q : Nat, s.heap.size ≤ q → A q := fun q h => by rw [← hAe]; exact Or.inr h
  have hS : va_S A s.heap s.heap [] := va_S.rf
  have hT := vx_table (x := yL_proof) B (hts0 _ List.mem_cons_self)
  have hl := lv_entry ([.ref (ad 0), .int p0, .int p1, .int p2, .ref o]) (n := 6) (Nat.le_of_ble_eq_true rfl)
  rw [lg_entry_eq]
  generalize (lg_sl ([.ref (ad 0), .int p0, .int p1, .int p2, .ref o]) ++ List.replicate (6 - (lg_sl ([.ref (ad 0), .int p0, .int p1, .int p2, .ref o])).length) Slot.unset).toArray = ls at hl ⊢
  replace hl : lv_has ls 6 [(0, .ref (ad 0)), (1, .int p0), (2, .int p1), (3, .int p2), (4, .ref o)] := hl
  refine w_gen (fun Q hQ => ?_)
  refine lv_aload hx hb dL_proof_0 (lv_at hl 4 rfl) ?_
  refine lv_iconst (v := 0) hx hb dL_proof_2 (by decide) ?_
  refine lv_aload_n hx hb dL_proof_3 rfl (lv_at hl 0 rfl) ?_
  refine lv_iload_n hx hb dL_proof_4 rfl (lv_at hl 1 rfl) ?_
  refine lv_iload_n hx hb dL_proof_5 rfl (lv_at hl 2 rfl) ?_
  refine lv_iload_n hx hb dL_proof_6 rfl (lv_at hl 3 rfl) ?_
  refine cX_iVF (As := [.int p0, .int p1, .int p2]) (rest := [.int 0, .ref o]) (wr := [(o, .inl (cJ, 1, .inr (.inl f)))]) ⟨hx, hb, hml, hown, hts⟩ (kx_X9_proof l hl0 D cI cZ ad u p0 p1 p2 h) (cwV 3 hts (gwV mw_815 mw_816 mw_817 mw_48 mw_818) rfl rfl rfl (by decide +kernel) ⟨Nat.le_of_ble_eq_true rfl, Nat.le_of_ble_eq_true rfl⟩) (hK.sub [0, 1] rfl) hP hD hS hA hZ [1, 2, 3, 4, 5, 6, 7, 8, 9, 10, 11, 12, 13, 14, 15, 16, 17, 18, 19, 20, 21, 22, 23, 24, 25, 26, 27, 28, 29, 30, 31, 32, 33, 34, 35] [0] rfl rfl (by decide) rfl (by decide) (by decide) (ci := 9) (q0 := 0) rfl rfl rfl hl.1 rfl (Nat.le_of_ble_eq_true rfl) dL_proof_7 ⟨Nat.le_of_ble_eq_true rfl, Nat.le_of_ble_eq_true rfl⟩ (fun ce q9 H locs hP hD hS h1 h2 h3 => ?_)
  replace hP : va_P D vwCl (wL cI cZ cJ ad o f w') H := hP
  replace hD : va_D A (wL cI cZ cJ ad o f w') := hD
  refine vx_catch (name := "java/lang/IndexOutOfBoundsException") hown [] ⟨0, 12, 15, 24⟩ [⟨0, 12, 19, 13⟩, ⟨0, 12, 23, 18⟩] hT (fun _ h => absurd h List.not_mem_nil) (by decide) (by decide) (hts _ mw_587) (va_Nw.use rfl (hZ.2.2.2.2.2.2.2.2.2.1 "java/lang/IndexOutOfBoundsException" (by decide +kernel))) h1 h2 h3 ?_
  refine lv_astore (lv' := [(5, .ref q9), (0, .ref (ad 0)), (1, .int p0), (2, .int p1), (3, .int p2), (4, .ref o)]) hx hb dL_proof_15 hl (by decide) rfl (fun ls hl => ?_)
  refine lv_iconst (v := 1) hx hb dL_proof_17 (by decide) ?_
  exact cc_retC hx hb hr rfl hQ hK hP hD hS rfl dL_proof_18 hlocks
set_option maxHeartbeats 4000000 in
set_option maxRecDepth 100000 in
theorem kx2_L_proof (l : Launch) (hl0 : l.stackTraces = false) (D : va_G) (cI cZ cJ : ClassId) (ad : Nat → Nat) (o : Nat) (f : Nat → Int64) (u : GS) (p0 : Int32) (p1 : Int32) (p2 : Int32) {w' : GS} (h : g_X9_proof u p0 p1 p2 = some (.inr "java/lang/IllegalArgumentException", w')) : MJ l yL_proof (wmH yL_proof cL_proof 6 (some .int) [(0, 12, 15, 24), (0, 12, 19, 13), (0, 12, 23, 18)]) rx_L_proof D [(cI, .int), (cZ, .boolean), (cJ, .long)] (wL cI cZ cJ ad o f u) (wL cI cZ cJ ad o f w') [.ref (ad 0), .int p0, .int p1, .int p2, .ref o] 2 1 6 := by
  intro sz
  refine va_MetW (cc := cL_proof) (maxL := 6) (ret := some .int) (hh := [(0, 12, 15, 24), (0, 12, 19, 13), (0, 12, 23, 18)]) (by decide) rfl ?_
  intro p e s m args below meth c s₁ B hml hv
  obtain ⟨rfl, hsz, hP, hK, hD0, hZ⟩ := hv
  have hx := B.exec
  have hb := B.bytes
  have hr := B.returns
  have hts0 := atoms_spec (ws := wmH yL_proof cL_proof 6 (some .int) [(0, 12, 15, 24), (0, 12, 19, 13), (0, 12, 23, 18)]) B.pre
  have hts : ∀ w ∈ Wall, w.before _ s = true := fun w hw => hts0 w (List.mem_cons_of_mem _ hw)
  have hown : s.vm.findClass RL = some m.cls := findClass_of_methodNamed B.named
  have hlocks := B.notSynchronized
  subst hsz
  have hD := hD0.self (sz := s.heap.size)
  generalize hAe : va_A (wL cI cZ cJ ad o f u) s.heap.size = A at hD hZ ⊢
  have hA : ∀ q : Nat, s.heap.size ≤ q → A q := fun q h => by rw [← hAe]; exact Or.inr h
  have hS : va_S A s.heap s.heap [] := va_S.rf
  have hT := vx_table (x := yL_proof) B (hts0 _ List.mem_cons_self)
  have hl := lv_entry ([.ref (ad 0), .int p0, .int p1, .int p2, .ref o]) (n := 6) (Nat.le_of_ble_eq_true rfl)
  rw [lg_entry_eq]
  generalize (lg_sl ([.ref (ad 0), .int p0, .int p1, .int p2, .ref o]) ++ List.replicate (6 - (lg_sl ([.ref (ad 0), .int p0, .int p1, .int p2, .ref o])).length) Slot.unset).toArray = ls at hl ⊢
  replace hl : lv_has ls 6 [(0, .ref (ad 0)), (1, .int p0), (2, .int p1), (3, .int p2), (4, .ref o)] := hl
  refine w_gen (fun Q hQ => ?_)
  refine lv_aload hx hb dL_proof_0 (lv_at hl 4 rfl) ?_
  refine lv_iconst (v := 0) hx hb dL_proof_2 (by decide) ?_
  refine lv_aload_n hx hb dL_proof_3 rfl (lv_at hl 0 rfl) ?_
  refine lv_iload_n hx hb dL_proof_4 rfl (lv_at hl 1 rfl) ?_
  refine lv_iload_n hx hb dL_proof_5 rfl (lv_at hl 2 rfl) ?_
  refine lv_iload_n hx hb dL_proof_6 rfl (lv_at hl 3 rfl) ?_
  refine cX_iVF (As := [.int p0, .int p1, .int p2]) (rest := [.int 0, .ref o]) (wr := [(o, .inl (cJ, 1, .inr (.inl f)))]) ⟨hx, hb, hml, hown, hts⟩ (kx_X9_proof l hl0 D cI cZ ad u p0 p1 p2 h) (cwV 3 hts (gwV mw_815 mw_816 mw_817 mw_48 mw_818) rfl rfl rfl (by decide +kernel) ⟨Nat.le_of_ble_eq_true rfl, Nat.le_of_ble_eq_true rfl⟩) (hK.sub [0, 1] rfl) hP hD hS hA hZ [1, 2, 3, 4, 5, 6, 7, 8, 9, 10, 11, 12, 13, 14, 15, 16, 17, 18, 19, 20, 21, 22, 23, 24, 25, 26, 27, 28, 29, 30, 31, 32, 33, 34, 35] [0] rfl rfl (by decide) rfl (by decide) (by decide) (ci := 9) (q0 := 0) rfl rfl rfl hl.1 rfl (Nat.le_of_ble_eq_true rfl) dL_proof_7 ⟨Nat.le_of_ble_eq_true rfl, Nat.le_of_ble_eq_true rfl⟩ (fun ce q9 H locs hP hD hS h1 h2 h3 => ?_)
  replace hP : va_P D vwCl (wL cI cZ cJ ad o f w') H := hP
  replace hD : va_D A (wL cI cZ cJ ad o f w') := hD
  refine vx_catch (name := "java/lang/IllegalArgumentException") hown [⟨0, 12, 15, 24⟩] ⟨0, 12, 19, 13⟩ [⟨0, 12, 23, 18⟩] hT (List.forall_mem_cons.mpr ⟨Or.inr ⟨by decide, "java/lang/IndexOutOfBoundsException", hts _ mw_587, hZ.2.2.2.2.2.2.2.2.2.2 ("java/lang/IllegalArgumentException", "java/lang/IndexOutOfBoundsException") (by decide +kernel)⟩, (fun _ h => absurd h List.not_mem_nil)⟩) (by decide) (by decide) (hts _ mw_386) (va_Nw.use rfl (hZ.2.2.2.2.2.2.2.2.2.1 "java/lang/IllegalArgumentException" (by decide +kernel))) h1 h2 h3 ?_
  refine lv_astore (lv' := [(5, .ref q9), (0, .ref (ad 0)), (1, .int p0), (2, .int p1), (3, .int p2), (4, .ref o)]) hx hb dL_proof_19 hl (by decide) rfl (fun ls hl => ?_)
  refine lv_iconst (v := 2) hx hb dL_proof_21 (by decide) ?_
  exact cc_retC hx hb hr rfl hQ hK hP hD hS rfl dL_proof_22 hlocks
set_option maxHeartbeats 4000000 in
set_option maxRecDepth 100000 in
theorem kx3_L_proof (l : Launch) (hl0 : l.stackTraces = false) (D : va_G) (cI cZ cJ : ClassId) (ad : Nat → Nat) (o : Nat) (f : Nat → Int64) (u : GS) (p0 : Int32) (p1 : Int32) (p2 : Int32) {w' : GS} (h : g_X9_proof u p0 p1 p2 = some (.inr "java/lang/IllegalStateException", w')) : MJ l yL_proof (wmH yL_proof cL_proof 6 (some .int) [(0, 12, 15, 24), (0, 12, 19, 13), (0, 12, 23, 18)]) rx_L_proof D [(cI, .int), (cZ, .boolean), (cJ, .long)] (wL cI cZ cJ ad o f u) (wL cI cZ cJ ad o f w') [.ref (ad 0), .int p0, .int p1, .int p2, .ref o] 3 1 6 := by
  intro sz
  refine va_MetW (cc := cL_proof) (maxL := 6) (ret := some .int) (hh := [(0, 12, 15, 24), (0, 12, 19, 13), (0, 12, 23, 18)]) (by decide) rfl ?_
  intro p e s m args below meth c s₁ B hml hv
  obtain ⟨rfl, hsz, hP, hK, hD0, hZ⟩ := hv
  have hx := B.exec
  have hb := B.bytes
  have hr := B.returns
  have hts0 := atoms_spec (ws := wmH yL_proof cL_proof 6 (some .int) [(0, 12, 15, 24), (0, 12, 19, 13), (0, 12, 23, 18)]) B.pre
  have hts : ∀ w ∈ Wall, w.before _ s = true := fun w hw => hts0 w (List.mem_cons_of_mem _ hw)
  have hown : s.vm.findClass RL = some m.cls := findClass_of_methodNamed B.named
  have hlocks := B.notSynchronized
  subst hsz
  have hD := hD0.self (sz := s.heap.size)
  generalize hAe : va_A (wL cI cZ cJ ad o f u) s.heap.size = A at hD hZ ⊢
  have hA : ∀ q : Nat, s.heap.size ≤ q → A q := fun q h => by rw [← hAe]; exact Or.inr h
  have hS : va_S A s.heap s.heap [] := va_S.rf
  have hT := vx_table (x := yL_proof) B (hts0 _ List.mem_cons_self)
  have hl := lv_entry ([.ref (ad 0), .int p0, .int p1, .int p2, .ref o]) (n := 6) (Nat.le_of_ble_eq_true rfl)
  rw [lg_entry_eq]
  generalize (lg_sl ([.ref (ad 0), .int p0, .int p1, .int p2, .ref o]) ++ List.replicate (6 - (lg_sl ([.ref (ad 0), .int p0, .int p1, .int p2, .ref o])).length) Slot.unset).toArray = ls at hl ⊢
  replace hl : lv_has ls 6 [(0, .ref (ad 0)), (1, .int p0), (2, .int p1), (3, .int p2), (4, .ref o)] := hl
  refine w_gen (fun Q hQ => ?_)
  refine lv_aload hx hb dL_proof_0 (lv_at hl 4 rfl) ?_
  refine lv_iconst (v := 0) hx hb dL_proof_2 (by decide) ?_
  refine lv_aload_n hx hb dL_proof_3 rfl (lv_at hl 0 rfl) ?_
  refine lv_iload_n hx hb dL_proof_4 rfl (lv_at hl 1 rfl) ?_
  refine lv_iload_n hx hb dL_proof_5 rfl (lv_at hl 2 rfl) ?_
  refine lv_iload_n hx hb dL_proof_6 rfl (lv_at hl 3 rfl) ?_
  refine cX_iVF (As := [.int p0, .int p1, .int p2]) (rest := [.int 0, .ref o]) (wr := [(o, .inl (cJ, 1, .inr (.inl f)))]) ⟨hx, hb, hml, hown, hts⟩ (kx_X9_proof l hl0 D cI cZ ad u p0 p1 p2 h) (cwV 3 hts (gwV mw_815 mw_816 mw_817 mw_48 mw_818) rfl rfl rfl (by decide +kernel) ⟨Nat.le_of_ble_eq_true rfl, Nat.le_of_ble_eq_true rfl⟩) (hK.sub [0, 1] rfl) hP hD hS hA hZ [1, 2, 3, 4, 5, 6, 7, 8, 9, 10, 11, 12, 13, 14, 15, 16, 17, 18, 19, 20, 21, 22, 23, 24, 25, 26, 27, 28, 29, 30, 31, 32, 33, 34, 35] [0] rfl rfl (by decide) rfl (by decide) (by decide) (ci := 9) (q0 := 0) rfl rfl rfl hl.1 rfl (Nat.le_of_ble_eq_true rfl) dL_proof_7 ⟨Nat.le_of_ble_eq_true rfl, Nat.le_of_ble_eq_true rfl⟩ (fun ce q9 H locs hP hD hS h1 h2 h3 => ?_)
  replace hP : va_P D vwCl (wL cI cZ cJ ad o f w') H := hP
  replace hD : va_D A (wL cI cZ cJ ad o f w') := hD
  refine vx_catch (name := "java/lang/IllegalStateException") hown [⟨0, 12, 15, 24⟩, ⟨0, 12, 19, 13⟩] ⟨0, 12, 23, 18⟩ [] hT (List.forall_mem_cons.mpr ⟨Or.inr ⟨by decide, "java/lang/IndexOutOfBoundsException", hts _ mw_587, hZ.2.2.2.2.2.2.2.2.2.2 ("java/lang/IllegalStateException", "java/lang/IndexOutOfBoundsException") (by decide +kernel)⟩, (List.forall_mem_cons.mpr ⟨Or.inr ⟨by decide, "java/lang/IllegalArgumentException", hts _ mw_386, hZ.2.2.2.2.2.2.2.2.2.2 ("java/lang/IllegalStateException", "java/lang/IllegalArgumentException") (by decide +kernel)⟩, (fun _ h => absurd h List.not_mem_nil)⟩)⟩) (by decide) (by decide) (hts _ mw_466) (va_Nw.use rfl (hZ.2.2.2.2.2.2.2.2.2.1 "java/lang/IllegalStateException" (by decide +kernel))) h1 h2 h3 ?_
  refine lv_astore (lv' := [(5, .ref q9), (0, .ref (ad 0)), (1, .int p0), (2, .int p1), (3, .int p2), (4, .ref o)]) hx hb dL_proof_23 hl (by decide) rfl (fun ls hl => ?_)
  refine lv_iconst (v := 3) hx hb dL_proof_25 (by decide) ?_
  exact cc_retC hx hb hr rfl hQ hK hP hD hS rfl dL_proof_26 hlocks

def rL_isFined : Room := { frames := 4, cells := 0, slots := 0, locals := 88 }
def rx_L_isFined : Room := { frames := 9, cells := 1, slots := 6, locals := 153 }
set_option maxHeartbeats 4000000 in
set_option maxRecDepth 100000 in
theorem k_L_isFined (l : Launch) (D : va_G) (cI cZ cJ : ClassId) (ad : Nat → Nat) (o : Nat) (f : Nat → Int64) (u : GS) (p0 : Int32) (p1 : Int32) (p2 : Int32) {r : Int32} {w' : GS} (h : g_X9_isFined u p0 p1 p2 = some (.inl r, w')) : MJ l yL_isFined (wmH yL_isFined cL_isFined 6 (some .int) [(0, 19, 22, 24), (0, 19, 26, 13), (0, 19, 30, 18)]) rL_isFined D [(cI, .int), (cZ, .boolean), (cJ, .long)] (wL cI cZ cJ ad o f u) (wL cI cZ cJ ad o (vp_updL f (0 : Int32).toNatClampNeg (if r = 0 then 0 else 1)) w') [.ref (ad 0), .int p0, .int p1, .int p2, .ref o] 0 0 0 := by
  intro sz
  refine va_MetW (cc := cL_isFined) (maxL := 6) (ret := some .int) (hh := [(0, 19, 22, 24), (0, 19, 26, 13), (0, 19, 30, 18)]) (by decide) rfl ?_
  intro p e s m args below meth c s₁ B hml hv
  obtain ⟨rfl, hsz, hP, hK, hD0, hZ⟩ := hv
  have hx := B.exec
  have hb := B.bytes
  have hr := B.returns
  have hts0 := atoms_spec (ws := wmH yL_isFined cL_isFined 6 (some .int) [(0, 19, 22, 24), (0, 19, 26, 13), (0, 19, 30, 18)]) B.pre
  have hts : ∀ w ∈ Wall, w.before _ s = true := fun w hw => hts0 w (List.mem_cons_of_mem _ hw)
  have hown : s.vm.findClass RL = some m.cls := findClass_of_methodNamed B.named
  have hlocks := B.notSynchronized
  subst hsz
  have hD := hD0.self (sz := s.heap.size)
  generalize hAe : va_A (wL cI cZ cJ ad o f u) s.heap.size = A at hD hZ ⊢
  have hA : ∀ q : Nat, s.heap.size ≤ q → A q := fun q h => by rw [← hAe]; exact Or.inr h
  have hS : va_S A s.heap s.heap [] := va_S.rf
  have hl := lv_entry ([.ref (ad 0), .int p0, .int p1, .int p2, .ref o]) (n := 6) (Nat.le_of_ble_eq_true rfl)
  rw [lg_entry_eq]
  generalize (lg_sl ([.ref (ad 0), .int p0, .int p1, .int p2, .ref o]) ++ List.replicate (6 - (lg_sl ([.ref (ad 0), .int p0, .int p1, .int p2, .ref o])).length) Slot.unset).toArray = ls at hl ⊢
  replace hl : lv_has ls 6 [(0, .ref (ad 0)), (1, .int p0), (2, .int p1), (3, .int p2), (4, .ref o)] := hl
  refine w_gen (fun Q hQ => ?_)
  refine lv_aload hx hb dL_isFined_0 (lv_at hl 4 rfl) ?_
  refine lv_iconst (v := 0) hx hb dL_isFined_2 (by decide) ?_
  refine lv_aload_n hx hb dL_isFined_3 rfl (lv_at hl 0 rfl) ?_
  refine lv_iload_n hx hb dL_isFined_4 rfl (lv_at hl 1 rfl) ?_
  refine lv_iload_n hx hb dL_isFined_5 rfl (lv_at hl 2 rfl) ?_
  refine lv_iload_n hx hb dL_isFined_6 rfl (lv_at hl 3 rfl) ?_
  refine cc_iVF (As := [.int p0, .int p1, .int p2]) (rest := [.int 0, .ref o]) (wr := [(o, .inl (cJ, 1, .inr (.inl f)))]) ⟨hx, hb, hml, hown, hts⟩ (k_X9_isFined l D cI cZ ad u p0 p1 p2 h) (cwV 3 hts (gwV mw_834 mw_835 mw_836 mw_48 mw_837) rfl rfl rfl (by decide +kernel) ⟨Nat.le_of_ble_eq_true rfl, Nat.le_of_ble_eq_true rfl⟩) (hK.sub [0, 1] rfl) hP hD hS hA hZ [1, 2, 3, 4, 5, 6, 7, 8, 9, 10, 11, 12, 13, 14, 15, 16, 17, 18, 19, 20, 21, 22, 23, 24, 25, 26, 27, 28, 29, 30, 31, 32, 33, 34, 35] [0] rfl rfl (by decide) rfl (by decide) (by decide) (ci := 9) (q0 := 0) rfl rfl rfl hl.1 rfl (Nat.le_of_ble_eq_true rfl) dL_isFined_7 ⟨Nat.zero_le _, Nat.zero_le _⟩ (fun H locs hP hD hS => ?_)
  replace hP : va_P D vwCl (wL cI cZ cJ ad o f w') H := hP
  replace hD : va_D A (wL cI cZ cJ ad o f w') := hD
  refine lv_if_eq (tgt := 17) hx hb dL_isFined_10 (by decide) (fun c1 => ?_) (fun c1 => ?_)
  · refine lv_lconst (v := 0) hx hb dL_isFined_17 (by decide) ?_
    refine va_last (D := D) hx hb hK hP hD hS 0 2 rfl rfl (by unfold vp_in; decide) dL_isFined_18 (fun H locs hP hD hS => ?_)
    replace hP : va_P D vwCl (wL cI cZ cJ ad o (vp_updL f (0 : Int32).toNatClampNeg (if r = 0 then 0 else 1)) w') H := by rw [if_pos c1]; exact hP
    replace hD : va_D A (wL cI cZ cJ ad o (vp_updL f (0 : Int32).toNatClampNeg (if r = 0 then 0 else 1)) w') := by rw [if_pos c1]; exact hD
    refine lv_goto (tgt := 34) hx hb dL_isFined_19 (by decide) ?_
    refine lv_iconst (v := 0) hx hb dL_isFined_34 (by decide) ?_
    exact cc_retC hx hb hr rfl hQ hK hP hD hS rfl dL_isFined_35 hlocks
  · refine lv_lconst (v := 1) hx hb dL_isFined_13 (by decide) ?_
    refine lv_goto (tgt := 18) hx hb dL_isFined_14 (by decide) ?_
    refine va_last (D := D) hx hb hK hP hD hS 0 2 rfl rfl (by unfold vp_in; decide) dL_isFined_18 (fun H locs hP hD hS => ?_)
    replace hP : va_P D vwCl (wL cI cZ cJ ad o (vp_updL f (0 : Int32).toNatClampNeg (if r = 0 then 0 else 1)) w') H := by rw [if_neg c1]; exact hP
    replace hD : va_D A (wL cI cZ cJ ad o (vp_updL f (0 : Int32).toNatClampNeg (if r = 0 then 0 else 1)) w') := by rw [if_neg c1]; exact hD
    refine lv_goto (tgt := 34) hx hb dL_isFined_19 (by decide) ?_
    refine lv_iconst (v := 0) hx hb dL_isFined_34 (by decide) ?_
    exact cc_retC hx hb hr rfl hQ hK hP hD hS rfl dL_isFined_35 hlocks
set_option maxHeartbeats 4000000 in
set_option maxRecDepth 100000 in
theorem kx1_L_isFined (l : Launch) (hl0 : l.stackTraces = false) (D : va_G) (cI cZ cJ : ClassId) (ad : Nat → Nat) (o : Nat) (f : Nat → Int64) (u : GS) (p0 : Int32) (p1 : Int32) (p2 : Int32) {w' : GS} (h : g_X9_isFined u p0 p1 p2 = some (.inr "java/lang/IndexOutOfBoundsException", w')) : MJ l yL_isFined (wmH yL_isFined cL_isFined 6 (some .int) [(0, 19, 22, 24), (0, 19, 26, 13), (0, 19, 30, 18)]) rx_L_isFined D [(cI, .int), (cZ, .boolean), (cJ, .long)] (wL cI cZ cJ ad o f u) (wL cI cZ cJ ad o f w') [.ref (ad 0), .int p0, .int p1, .int p2, .ref o] 1 1 6 := by
  intro sz
  refine va_MetW (cc := cL_isFined) (maxL := 6) (ret := some .int) (hh := [(0, 19, 22, 24), (0, 19, 26, 13), (0, 19, 30, 18)]) (by decide) rfl ?_
  intro p e s m args below meth c s₁ B hml hv
  obtain ⟨rfl, hsz, hP, hK, hD0, hZ⟩ := hv
  have hx := B.exec
  have hb := B.bytes
  have hr := B.returns
  have hts0 := atoms_spec (ws := wmH yL_isFined cL_isFined 6 (some .int) [(0, 19, 22, 24), (0, 19, 26, 13), (0, 19, 30, 18)]) B.pre
  have hts : ∀ w ∈ Wall, w.before _ s = true := fun w hw => hts0 w (List.mem_cons_of_mem _ hw)
  have hown : s.vm.findClass RL = some m.cls := findClass_of_methodNamed B.named
  have hlocks := B.notSynchronized
  subst hsz
  have hD := hD0.self (sz := s.heap.size)
  generalize hAe : va_A (wL cI cZ cJ ad o f u) s.heap.size = A at hD hZ ⊢
  have hA : ∀ q : Nat, s.heap.size ≤ q → A q := fun q h => by rw [← hAe]; exact Or.inr h
  have hS : va_S A s.heap s.heap [] := va_S.rf
  have hT := vx_table (x := yL_isFined) B (hts0 _ List.mem_cons_self)
  have hl := lv_entry ([.ref (ad 0), .int p0, .int p1, .int p2, .ref o]) (n := 6) (Nat.le_of_ble_eq_true rfl)
  rw [lg_entry_eq]
  generalize (lg_sl ([.ref (ad 0), .int p0, .int p1, .int p2, .ref o]) ++ List.replicate (6 - (lg_sl ([.ref (ad 0), .int p0, .int p1, .int p2, .ref o])).length) Slot.unset).toArray = ls at hl ⊢
  replace hl : lv_has ls 6 [(0, .ref (ad 0)), (1, .int p0), (2, .int p1), (3, .int p2), (4, .ref o)] := hl
  refine w_gen (fun Q hQ => ?_)
  refine lv_aload hx hb dL_isFined_0 (lv_at hl 4 rfl) ?_
  refine lv_iconst (v := 0) hx hb dL_isFined_2 (by decide) ?_
  refine lv_aload_n hx hb dL_isFined_3 rfl (lv_at hl 0 rfl) ?_
  refine lv_iload_n hx hb dL_isFined_4 rfl (lv_at hl 1 rfl) ?_
  refine lv_iload_n hx hb dL_isFined_5 rfl (lv_at hl 2 rfl) ?_
  refine lv_iload_n hx hb dL_isFined_6 rfl (lv_at hl 3 rfl) ?_
  refine cX_iVF (As := [.int p0, .int p1, .int p2]) (rest := [.int 0, .ref o]) (wr := [(o, .inl (cJ, 1, .inr (.inl f)))]) ⟨hx, hb, hml, hown, hts⟩ (kx_X9_isFined l hl0 D cI cZ ad u p0 p1 p2 h) (cwV 3 hts (gwV mw_834 mw_835 mw_836 mw_48 mw_837) rfl rfl rfl (by decide +kernel) ⟨Nat.le_of_ble_eq_true rfl, Nat.le_of_ble_eq_true rfl⟩) (hK.sub [0, 1] rfl) hP hD hS hA hZ [1, 2, 3, 4, 5, 6, 7, 8, 9, 10, 11, 12, 13, 14, 15, 16, 17, 18, 19, 20, 21, 22, 23, 24, 25, 26, 27, 28, 29, 30, 31, 32, 33, 34, 35] [0] rfl rfl (by decide) rfl (by decide) (by decide) (ci := 9) (q0 := 0) rfl rfl rfl hl.1 rfl (Nat.le_of_ble_eq_true rfl) dL_isFined_7 ⟨Nat.le_of_ble_eq_true rfl, Nat.le_of_ble_eq_true rfl⟩ (fun ce q9 H locs hP hD hS h1 h2 h3 => ?_)
  replace hP : va_P D vwCl (wL cI cZ cJ ad o f w') H := hP
  replace hD : va_D A (wL cI cZ cJ ad o f w') := hD
  refine vx_catch (name := "java/lang/IndexOutOfBoundsException") hown [] ⟨0, 19, 22, 24⟩ [⟨0, 19, 26, 13⟩, ⟨0, 19, 30, 18⟩] hT (fun _ h => absurd h List.not_mem_nil) (by decide) (by decide) (hts _ mw_587) (va_Nw.use rfl (hZ.2.2.2.2.2.2.2.2.2.1 "java/lang/IndexOutOfBoundsException" (by decide +kernel))) h1 h2 h3 ?_
  refine lv_astore (lv' := [(5, .ref q9), (0, .ref (ad 0)), (1, .int p0), (2, .int p1), (3, .int p2), (4, .ref o)]) hx hb dL_isFined_22 hl (by decide) rfl (fun ls hl => ?_)
  refine lv_iconst (v := 1) hx hb dL_isFined_24 (by decide) ?_
  exact cc_retC hx hb hr rfl hQ hK hP hD hS rfl dL_isFined_25 hlocks
set_option maxHeartbeats 4000000 in
set_option maxRecDepth 100000 in
theorem kx2_L_isFined (l : Launch) (hl0 : l.stackTraces = false) (D : va_G) (cI cZ cJ : ClassId) (ad : Nat → Nat) (o : Nat) (f : Nat → Int64) (u : GS) (p0 : Int32) (p1 : Int32) (p2 : Int32) {w' : GS} (h : g_X9_isFined u p0 p1 p2 = some (.inr "java/lang/IllegalArgumentException", w')) : MJ l yL_isFined (wmH yL_isFined cL_isFined 6 (some .int) [(0, 19, 22, 24), (0, 19, 26, 13), (0, 19, 30, 18)]) rx_L_isFined D [(cI, .int), (cZ, .boolean), (cJ, .long)] (wL cI cZ cJ ad o f u) (wL cI cZ cJ ad o f w') [.ref (ad 0), .int p0, .int p1, .int p2, .ref o] 2 1 6 := by
  intro sz
  refine va_MetW (cc := cL_isFined) (maxL := 6) (ret := some .int) (hh := [(0, 19, 22, 24), (0, 19, 26, 13), (0, 19, 30, 18)]) (by decide) rfl ?_
  intro p e s m args below meth c s₁ B hml hv
  obtain ⟨rfl, hsz, hP, hK, hD0, hZ⟩ := hv
  have hx := B.exec
  have hb := B.bytes
  have hr := B.returns
  have hts0 := atoms_spec (ws := wmH yL_isFined cL_isFined 6 (some .int) [(0, 19, 22, 24), (0, 19, 26, 13), (0, 19, 30, 18)]) B.pre
  have hts : ∀ w ∈ Wall, w.before _ s = true := fun w hw => hts0 w (List.mem_cons_of_mem _ hw)
  have hown : s.vm.findClass RL = some m.cls := findClass_of_methodNamed B.named
  have hlocks := B.notSynchronized
  subst hsz
  have hD := hD0.self (sz := s.heap.size)
  generalize hAe : va_A (wL cI cZ cJ ad o f u) s.heap.size = A at hD hZ ⊢
  have hA : ∀ q : Nat, s.heap.size ≤ q → A q := fun q h => by rw [← hAe]; exact Or.inr h
  have hS : va_S A s.heap s.heap [] := va_S.rf
  have hT := vx_table (x := yL_isFined) B (hts0 _ List.mem_cons_self)
  have hl := lv_entry ([.ref (ad 0), .int p0, .int p1, .int p2, .ref o]) (n := 6) (Nat.le_of_ble_eq_true rfl)
  rw [lg_entry_eq]
  generalize (lg_sl ([.ref (ad 0), .int p0, .int p1, .int p2, .ref o]) ++ List.replicate (6 - (lg_sl ([.ref (ad 0), .int p0, .int p1, .int p2, .ref o])).length) Slot.unset).toArray = ls at hl ⊢
  replace hl : lv_has ls 6 [(0, .ref (ad 0)), (1, .int p0), (2, .int p1), (3, .int p2), (4, .ref o)] := hl
  refine w_gen (fun Q hQ => ?_)
  refine lv_aload hx hb dL_isFined_0 (lv_at hl 4 rfl) ?_
  refine lv_iconst (v := 0) hx hb dL_isFined_2 (by decide) ?_
  refine lv_aload_n hx hb dL_isFined_3 rfl (lv_at hl 0 rfl) ?_
  refine lv_iload_n hx hb dL_isFined_4 rfl (lv_at hl 1 rfl) ?_
  refine lv_iload_n hx hb dL_isFined_5 rfl (lv_at hl 2 rfl) ?_
  refine lv_iload_n hx hb dL_isFined_6 rfl (lv_at hl 3 rfl) ?_
  refine cX_iVF (As := [.int p0, .int p1, .int p2]) (rest := [.int 0, .ref o]) (wr := [(o, .inl (cJ, 1, .inr (.inl f)))]) ⟨hx, hb, hml, hown, hts⟩ (kx_X9_isFined l hl0 D cI cZ ad u p0 p1 p2 h) (cwV 3 hts (gwV mw_834 mw_835 mw_836 mw_48 mw_837) rfl rfl rfl (by decide +kernel) ⟨Nat.le_of_ble_eq_true rfl, Nat.le_of_ble_eq_true rfl⟩) (hK.sub [0, 1] rfl) hP hD hS hA hZ [1, 2, 3, 4, 5, 6, 7, 8, 9, 10, 11, 12, 13, 14, 15, 16, 17, 18, 19, 20, 21, 22, 23, 24, 25, 26, 27, 28, 29, 30, 31, 32, 33, 34, 35] [0] rfl rfl (by decide) rfl (by decide) (by decide) (ci := 9) (q0 := 0) rfl rfl rfl hl.1 rfl (Nat.le_of_ble_eq_true rfl) dL_isFined_7 ⟨Nat.le_of_ble_eq_true rfl, Nat.le_of_ble_eq_true rfl⟩ (fun ce q9 H locs hP hD hS h1 h2 h3 => ?_)
  replace hP : va_P D vwCl (wL cI cZ cJ ad o f w') H := hP
  replace hD : va_D A (wL cI cZ cJ ad o f w') := hD
  refine vx_catch (name := "java/lang/IllegalArgumentException") hown [⟨0, 19, 22, 24⟩] ⟨0, 19, 26, 13⟩ [⟨0, 19, 30, 18⟩] hT (List.forall_mem_cons.mpr ⟨Or.inr ⟨by decide, "java/lang/IndexOutOfBoundsException", hts _ mw_587, hZ.2.2.2.2.2.2.2.2.2.2 ("java/lang/IllegalArgumentException", "java/lang/IndexOutOfBoundsException") (by decide +kernel)⟩, (fun _ h => absurd h List.not_mem_nil)⟩) (by decide) (by decide) (hts _ mw_386) (va_Nw.use rfl (hZ.2.2.2.2.2.2.2.2.2.1 "java/lang/IllegalArgumentException" (by decide +kernel))) h1 h2 h3 ?_
  refine lv_astore (lv' := [(5, .ref q9), (0, .ref (ad 0)), (1, .int p0), (2, .int p1), (3, .int p2), (4, .ref o)]) hx hb dL_isFined_26 hl (by decide) rfl (fun ls hl => ?_)
  refine lv_iconst (v := 2) hx hb dL_isFined_28 (by decide) ?_
  exact cc_retC hx hb hr rfl hQ hK hP hD hS rfl dL_isFined_29 hlocks
set_option maxHeartbeats 4000000 in
set_option maxRecDepth 100000 in
theorem kx3_L_isFined (l : Launch) (hl0 : l.stackTraces = false) (D : va_G) (cI cZ cJ : ClassId) (ad : Nat → Nat) (o : Nat) (f : Nat → Int64) (u : GS) (p0 : Int32) (p1 : Int32) (p2 : Int32) {w' : GS} (h : g_X9_isFined u p0 p1 p2 = some (.inr "java/lang/IllegalStateException", w')) : MJ l yL_isFined (wmH yL_isFined cL_isFined 6 (some .int) [(0, 19, 22, 24), (0, 19, 26, 13), (0, 19, 30, 18)]) rx_L_isFined D [(cI, .int), (cZ, .boolean), (cJ, .long)] (wL cI cZ cJ ad o f u) (wL cI cZ cJ ad o f w') [.ref (ad 0), .int p0, .int p1, .int p2, .ref o] 3 1 6 := by
  intro sz
  refine va_MetW (cc := cL_isFined) (maxL := 6) (ret := some .int) (hh := [(0, 19, 22, 24), (0, 19, 26, 13), (0, 19, 30, 18)]) (by decide) rfl ?_
  intro p e s m args below meth c s₁ B hml hv
  obtain ⟨rfl, hsz, hP, hK, hD0, hZ⟩ := hv
  have hx := B.exec
  have hb := B.bytes
  have hr := B.returns
  have hts0 := atoms_spec (ws := wmH yL_isFined cL_isFined 6 (some .int) [(0, 19, 22, 24), (0, 19, 26, 13), (0, 19, 30, 18)]) B.pre
  have hts : ∀ w ∈ Wall, w.before _ s = true := fun w hw => hts0 w (List.mem_cons_of_mem _ hw)
  have hown : s.vm.findClass RL = some m.cls := findClass_of_methodNamed B.named
  have hlocks := B.notSynchronized
  subst hsz
  have hD := hD0.self (sz := s.heap.size)
  generalize hAe : va_A (wL cI cZ cJ ad o f u) s.heap.size = A at hD hZ ⊢
  have hA : ∀ q : Nat, s.heap.size ≤ q → A q := fun q h => by rw [← hAe]; exact Or.inr h
  have hS : va_S A s.heap s.heap [] := va_S.rf
  have hT := vx_table (x := yL_isFined) B (hts0 _ List.mem_cons_self)
  have hl := lv_entry ([.ref (ad 0), .int p0, .int p1, .int p2, .ref o]) (n := 6) (Nat.le_of_ble_eq_true rfl)
  rw [lg_entry_eq]
  generalize (lg_sl ([.ref (ad 0), .int p0, .int p1, .int p2, .ref o]) ++ List.replicate (6 - (lg_sl ([.ref (ad 0), .int p0, .int p1, .int p2, .ref o])).length) Slot.unset).toArray = ls at hl ⊢
  replace hl : lv_has ls 6 [(0, .ref (ad 0)), (1, .int p0), (2, .int p1), (3, .int p2), (4, .ref o)] := hl
  refine w_gen (fun Q hQ => ?_)
  refine lv_aload hx hb dL_isFined_0 (lv_at hl 4 rfl) ?_
  refine lv_iconst (v := 0) hx hb dL_isFined_2 (by decide) ?_
  refine lv_aload_n hx hb dL_isFined_3 rfl (lv_at hl 0 rfl) ?_
  refine lv_iload_n hx hb dL_isFined_4 rfl (lv_at hl 1 rfl) ?_
  refine lv_iload_n hx hb dL_isFined_5 rfl (lv_at hl 2 rfl) ?_
  refine lv_iload_n hx hb dL_isFined_6 rfl (lv_at hl 3 rfl) ?_
  refine cX_iVF (As := [.int p0, .int p1, .int p2]) (rest := [.int 0, .ref o]) (wr := [(o, .inl (cJ, 1, .inr (.inl f)))]) ⟨hx, hb, hml, hown, hts⟩ (kx_X9_isFined l hl0 D cI cZ ad u p0 p1 p2 h) (cwV 3 hts (gwV mw_834 mw_835 mw_836 mw_48 mw_837) rfl rfl rfl (by decide +kernel) ⟨Nat.le_of_ble_eq_true rfl, Nat.le_of_ble_eq_true rfl⟩) (hK.sub [0, 1] rfl) hP hD hS hA hZ [1, 2, 3, 4, 5, 6, 7, 8, 9, 10, 11, 12, 13, 14, 15, 16, 17, 18, 19, 20, 21, 22, 23, 24, 25, 26, 27, 28, 29, 30, 31, 32, 33, 34, 35] [0] rfl rfl (by decide) rfl (by decide) (by decide) (ci := 9) (q0 := 0) rfl rfl rfl hl.1 rfl (Nat.le_of_ble_eq_true rfl) dL_isFined_7 ⟨Nat.le_of_ble_eq_true rfl, Nat.le_of_ble_eq_true rfl⟩ (fun ce q9 H locs hP hD hS h1 h2 h3 => ?_)
  replace hP : va_P D vwCl (wL cI cZ cJ ad o f w') H := hP
  replace hD : va_D A (wL cI cZ cJ ad o f w') := hD
  refine vx_catch (name := "java/lang/IllegalStateException") hown [⟨0, 19, 22, 24⟩, ⟨0, 19, 26, 13⟩] ⟨0, 19, 30, 18⟩ [] hT (List.forall_mem_cons.mpr ⟨Or.inr ⟨by decide, "java/lang/IndexOutOfBoundsException", hts _ mw_587, hZ.2.2.2.2.2.2.2.2.2.2 ("java/lang/IllegalStateException", "java/lang/IndexOutOfBoundsException") (by decide +kernel)⟩, (List.forall_mem_cons.mpr ⟨Or.inr ⟨by decide, "java/lang/IllegalArgumentException", hts _ mw_386, hZ.2.2.2.2.2.2.2.2.2.2 ("java/lang/IllegalStateException", "java/lang/IllegalArgumentException") (by decide +kernel)⟩, (fun _ h => absurd h List.not_mem_nil)⟩)⟩) (by decide) (by decide) (hts _ mw_466) (va_Nw.use rfl (hZ.2.2.2.2.2.2.2.2.2.1 "java/lang/IllegalStateException" (by decide +kernel))) h1 h2 h3 ?_
  refine lv_astore (lv' := [(5, .ref q9), (0, .ref (ad 0)), (1, .int p0), (2, .int p1), (3, .int p2), (4, .ref o)]) hx hb dL_isFined_30 hl (by decide) rfl (fun ls hl => ?_)
  refine lv_iconst (v := 3) hx hb dL_isFined_32 (by decide) ?_
  exact cc_retC hx hb hr rfl hQ hK hP hD hS rfl dL_isFined_33 hlocks
