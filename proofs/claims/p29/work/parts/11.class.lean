def rX9_needIndex : Room := { frames := 0, cells := 0, slots := 0, locals := 0 }
set_option maxHeartbeats 4000000 in
set_option maxRecDepth 100000 in
theorem k_X9_needIndex (l : Launch) (D : va_G) (cI cZ : ClassId) (ad : Nat → Nat) (u : GS) (p0 : Int32) {r : Int32} {w' : GS} (h : g_X9_needIndex u p0 = some (.inl r, w')) : MV l yX9_needIndex (wm yX9_needIndex cX9_needIndex 1 none) rX9_needIndex D [(cI, .int), (cZ, .boolean)] (wC cI cZ ad u) (wC cI cZ ad w') [.int p0] := by
  intro sz
  refine Met.ofW (cc := cX9_needIndex) (maxL := 1) (ret := none) (by decide) rfl ?_
  intro p e s m args below meth c s₁ B hml hv
  obtain ⟨rfl, hsz, hP, hK, hD0, hZ⟩ := hv
  have hx := B.exec
  have hb := B.bytes
  have hr := B.returns
  have hts : ∀ w ∈ Wall, w.before _ s = true := fun w hw => atoms_spec (ws := wm yX9_needIndex cX9_needIndex 1 none) B.pre w (List.mem_cons_of_mem _ hw)
  have hown : s.vm.findClass RX9 = some m.cls := findClass_of_methodNamed B.named
  have hlocks := B.notSynchronized
  subst hsz
  have hD := hD0.self (sz := s.heap.size)
  generalize hAe : va_A (wC cI cZ ad u) s.heap.size = A at hD hZ ⊢
  have hA : ∀ q : Nat, s.heap.size ≤ q → A q := fun q h => by rw [← hAe]; exact Or.inr h
  have hS : va_S A s.heap s.heap [] := va_S.rf
  have hl := lv_entry ([.int p0]) (n := 1) (Nat.le_of_ble_eq_true rfl)
  rw [lg_entry_eq]
  generalize (lg_sl ([.int p0]) ++ List.replicate (1 - (lg_sl ([.int p0])).length) Slot.unset).toArray = ls at hl ⊢
  replace hl : lv_has ls 1 [(0, .int p0)] := hl
  refine w_gen (fun Q hQ => ?_)
  refine lv_iload_n hx hb dX9_needIndex_0 rfl (lv_at hl 0 rfl) ?_
  refine lv_if_ne (tgt := 15) hx hb dX9_needIndex_1 (by decide) (fun c1 => ?_) (fun c1 => ?_)
  · replace h := gx_f c1 h
    cases h
    exact cc_vret hx hb hr hQ hK hP hD hS dX9_needIndex_15 hlocks
  · replace h := gx_t c1 h
    cases h

def rx_X9_needIndex : Room := { frames := 6, cells := 1, slots := 6, locals := 90 }
set_option maxHeartbeats 4000000 in
set_option maxRecDepth 100000 in
theorem kx_X9_needIndex (l : Launch) (hl0 : l.stackTraces = false) (D : va_G) (cI cZ : ClassId) (ad : Nat → Nat) (u : GS) (p0 : Int32) {E : String} {w' : GS} (h : g_X9_needIndex u p0 = some (.inr E, w')) : XV l yX9_needIndex (wm yX9_needIndex cX9_needIndex 1 none) rx_X9_needIndex D [(cI, .int), (cZ, .boolean)] (wC cI cZ ad u) (wC cI cZ ad w') [.int p0] E := by
  intro sz
  refine vx_ofW (cc := cX9_needIndex) (maxL := 1) (ret := none) (by decide) rfl ?_
  intro p e s m args below meth c s₁ B hml hout hv
  obtain ⟨rfl, hsz, hP, hK, hD0, hZ⟩ := hv
  have hx := B.exec
  have hb := B.bytes
  have hts : ∀ w ∈ Wall, w.before _ s = true := fun w hw => atoms_spec (ws := wm yX9_needIndex cX9_needIndex 1 none) B.pre w (List.mem_cons_of_mem _ hw)
  have hown : s.vm.findClass RX9 = some m.cls := findClass_of_methodNamed B.named
  have hlocks := B.notSynchronized
  subst hsz
  have hD := hD0.self (sz := s.heap.size)
  generalize hAe : va_A (wC cI cZ ad u) s.heap.size = A at hD hZ
  have hA : ∀ q : Nat, s.heap.size ≤ q → A q := fun q h => by rw [← hAe]; exact Or.inr h
  have hS : va_S A s.heap s.heap [] := va_S.rf
  have hl := lv_entry ([.int p0]) (n := 1) (Nat.le_of_ble_eq_true rfl)
  rw [lg_entry_eq]
  generalize (lg_sl ([.int p0]) ++ List.replicate (1 - (lg_sl ([.int p0])).length) Slot.unset).toArray = ls at hl ⊢
  replace hl : lv_has ls 1 [(0, .int p0)] := hl
  refine w_gen (fun Q hQ => ?_)
  refine lv_iload_n hx hb dX9_needIndex_0 rfl (lv_at hl 0 rfl) ?_
  refine lv_if_ne (tgt := 15) hx hb dX9_needIndex_1 (by decide) (fun c1 => ?_) (fun c1 => ?_)
  · replace h := gx_f c1 h
    cases h
  · replace h := gx_t c1 h
    cases h
    obtain ⟨sa, hstr⟩ := hZ.2.2.2.2.2.1
    exact cX_throw (names := ["java/lang/RuntimeException", "java/lang/Exception"]) hx hb hl0 hown (by decide +kernel) (by decide +kernel) (hts _ mw_319) (hts _ mw_33) hstr (fun w h => hts w (at_ioobe w h)) (by decide +kernel) hZ.2.2.2.2.2.2.2.2 (by decide +kernel) (by decide +kernel) hAe hZ.2.2.2.2.1 hQ hout hlocks hK hP hD hS (hl.1.trans hml.symm) dX9_needIndex_4 dX9_needIndex_7 dX9_needIndex_8 dX9_needIndex_11 dX9_needIndex_14 (Nat.le_of_ble_eq_true rfl) (Nat.le_of_ble_eq_true rfl) (Nat.le_of_ble_eq_true rfl) (Nat.le_of_ble_eq_true rfl)

def rX9_needSection : Room := { frames := 1, cells := 0, slots := 0, locals := 22 }
set_option maxHeartbeats 4000000 in
set_option maxRecDepth 100000 in
theorem k_X9_needSection (l : Launch) (D : va_G) (cI cZ : ClassId) (ad : Nat → Nat) (u : GS) (p0 : Int32) {r : Int32} {w' : GS} (h : g_X9_needSection u p0 = some (.inl r, w')) : MV l yX9_needSection (wm yX9_needSection cX9_needSection 1 none) rX9_needSection D [(cI, .int), (cZ, .boolean)] (wC cI cZ ad u) (wC cI cZ ad w') [.int p0] := by
  intro sz
  refine Met.ofW (cc := cX9_needSection) (maxL := 1) (ret := none) (by decide) rfl ?_
  intro p e s m args below meth c s₁ B hml hv
  obtain ⟨rfl, hsz, hP, hK, hD0, hZ⟩ := hv
  have hx := B.exec
  have hb := B.bytes
  have hr := B.returns
  have hts : ∀ w ∈ Wall, w.before _ s = true := fun w hw => atoms_spec (ws := wm yX9_needSection cX9_needSection 1 none) B.pre w (List.mem_cons_of_mem _ hw)
  have hown : s.vm.findClass RX9 = some m.cls := findClass_of_methodNamed B.named
  have hlocks := B.notSynchronized
  subst hsz
  have hD := hD0.self (sz := s.heap.size)
  generalize hAe : va_A (wC cI cZ ad u) s.heap.size = A at hD hZ ⊢
  have hA : ∀ q : Nat, s.heap.size ≤ q → A q := fun q h => by rw [← hAe]; exact Or.inr h
  have hS : va_S A s.heap s.heap [] := va_S.rf
  have hl := lv_entry ([.int p0]) (n := 1) (Nat.le_of_ble_eq_true rfl)
  rw [lg_entry_eq]
  generalize (lg_sl ([.int p0]) ++ List.replicate (1 - (lg_sl ([.int p0])).length) Slot.unset).toArray = ls at hl ⊢
  replace hl : lv_has ls 1 [(0, .int p0)] := hl
  refine w_gen (fun Q hQ => ?_)
  refine lv_iload_n hx hb dX9_needSection_0 rfl (lv_at hl 0 rfl) ?_
  refine lv_iconst (v := 0) hx hb dX9_needSection_1 (by decide) ?_
  refine lv_bipush (v := 11) hx hb dX9_needSection_2 (by decide) ?_
  obtain ⟨y1, hc2, h⟩ := gx_bind h
  refine cc_iS (As := [.int p0, .int (0 : Int32), .int (11 : Int32)]) (rest := []) ⟨hx, hb, hml, hown, hts⟩ (k_X9_isWithin l D cI cZ ad u p0 (0 : Int32) (11 : Int32) hc2) (va_cwS 3 hts (gwS mw_315 mw_243 mw_19 mw_244) rfl rfl rfl (by decide +kernel) ⟨Nat.le_of_ble_eq_true rfl, Nat.le_of_ble_eq_true rfl⟩) hK hP hD hS hA hZ rfl hl.1 rfl (Nat.le_of_ble_eq_true rfl) dX9_needSection_4 ⟨Nat.zero_le _, Nat.zero_le _⟩ (fun H locs hP hD hS => ?_)
  obtain ⟨y3, u4, hc5, h⟩ := gx_xr h
  refine cc_vS (As := [.int y1]) (rest := []) ⟨hx, hb, hml, hown, hts⟩ (k_X9_needIndex l D cI cZ ad u y1 hc5) (va_cwS 1 hts (gwS mw_316 mw_317 mw_19 mw_318) rfl rfl rfl (by decide +kernel) ⟨Nat.le_of_ble_eq_true rfl, Nat.le_of_ble_eq_true rfl⟩) hK hP hD hS hA hZ rfl hl.1 rfl (Nat.le_of_ble_eq_true rfl) dX9_needSection_7 ⟨Nat.zero_le _, Nat.zero_le _⟩ (fun H locs hP hD hS => ?_)
  cases h
  exact cc_vret hx hb hr hQ hK hP hD hS dX9_needSection_10 hlocks

def rx_X9_needSection : Room := { frames := 7, cells := 1, slots := 6, locals := 110 }
set_option maxHeartbeats 4000000 in
set_option maxRecDepth 100000 in
theorem kx_X9_needSection (l : Launch) (hl0 : l.stackTraces = false) (D : va_G) (cI cZ : ClassId) (ad : Nat → Nat) (u : GS) (p0 : Int32) {E : String} {w' : GS} (h : g_X9_needSection u p0 = some (.inr E, w')) : XV l yX9_needSection (wm yX9_needSection cX9_needSection 1 none) rx_X9_needSection D [(cI, .int), (cZ, .boolean)] (wC cI cZ ad u) (wC cI cZ ad w') [.int p0] E := by
  intro sz
  refine vx_ofW (cc := cX9_needSection) (maxL := 1) (ret := none) (by decide) rfl ?_
  intro p e s m args below meth c s₁ B hml hout hv
  obtain ⟨rfl, hsz, hP, hK, hD0, hZ⟩ := hv
  have hx := B.exec
  have hb := B.bytes
  have hts : ∀ w ∈ Wall, w.before _ s = true := fun w hw => atoms_spec (ws := wm yX9_needSection cX9_needSection 1 none) B.pre w (List.mem_cons_of_mem _ hw)
  have hown : s.vm.findClass RX9 = some m.cls := findClass_of_methodNamed B.named
  have hlocks := B.notSynchronized
  subst hsz
  have hD := hD0.self (sz := s.heap.size)
  generalize hAe : va_A (wC cI cZ ad u) s.heap.size = A at hD hZ
  have hA : ∀ q : Nat, s.heap.size ≤ q → A q := fun q h => by rw [← hAe]; exact Or.inr h
  have hS : va_S A s.heap s.heap [] := va_S.rf
  have hl := lv_entry ([.int p0]) (n := 1) (Nat.le_of_ble_eq_true rfl)
  rw [lg_entry_eq]
  generalize (lg_sl ([.int p0]) ++ List.replicate (1 - (lg_sl ([.int p0])).length) Slot.unset).toArray = ls at hl ⊢
  replace hl : lv_has ls 1 [(0, .int p0)] := hl
  refine w_gen (fun Q hQ => ?_)
  refine lv_iload_n hx hb dX9_needSection_0 rfl (lv_at hl 0 rfl) ?_
  refine lv_iconst (v := 0) hx hb dX9_needSection_1 (by decide) ?_
  refine lv_bipush (v := 11) hx hb dX9_needSection_2 (by decide) ?_
  obtain ⟨y1, hc2, h⟩ := gx_bind h
  refine cc_iS (As := [.int p0, .int (0 : Int32), .int (11 : Int32)]) (rest := []) ⟨hx, hb, hml, hown, hts⟩ (k_X9_isWithin l D cI cZ ad u p0 (0 : Int32) (11 : Int32) hc2) (va_cwS 3 hts (gwS mw_315 mw_243 mw_19 mw_244) rfl rfl rfl (by decide +kernel) ⟨Nat.le_of_ble_eq_true rfl, Nat.le_of_ble_eq_true rfl⟩) hK hP hD hS hA hZ rfl hl.1 rfl (Nat.le_of_ble_eq_true rfl) dX9_needSection_4 ⟨Nat.zero_le _, Nat.zero_le _⟩ (fun H locs hP hD hS => ?_)
  rcases gx_xx h with ⟨y3, u4, hc5, h⟩ | ⟨u4, hc5, ew⟩
  · refine cc_vS (As := [.int y1]) (rest := []) ⟨hx, hb, hml, hown, hts⟩ (k_X9_needIndex l D cI cZ ad u y1 hc5) (va_cwS 1 hts (gwS mw_316 mw_317 mw_19 mw_318) rfl rfl rfl (by decide +kernel) ⟨Nat.le_of_ble_eq_true rfl, Nat.le_of_ble_eq_true rfl⟩) hK hP hD hS hA hZ rfl hl.1 rfl (Nat.le_of_ble_eq_true rfl) dX9_needSection_7 ⟨Nat.zero_le _, Nat.zero_le _⟩ (fun H locs hP hD hS => ?_)
    cases h
  · replace ew : u4 = w' := ew
    subst ew
    refine cX_vS (As := [.int y1]) (rest := []) ⟨hx, hb, hml, hown, hts⟩ (kx_X9_needIndex l hl0 D cI cZ ad u y1 hc5) (va_cwS 1 hts (gwS mw_316 mw_317 mw_19 mw_318) rfl rfl rfl (by decide +kernel) ⟨Nat.le_of_ble_eq_true rfl, Nat.le_of_ble_eq_true rfl⟩) hK hP hD hS hA hZ rfl hl.1 rfl (Nat.le_of_ble_eq_true rfl) dX9_needSection_7 ⟨Nat.le_of_ble_eq_true rfl, Nat.le_of_ble_eq_true rfl⟩ (fun ce q9 H locs hP hD hS hz h1 h2 h3 => ?_)
    exact cX_back hAe hQ hout hlocks hK rfl hP hD hS hz h1 h2 h3 (Nat.le_refl _) (Nat.le_refl _)

def rX9_needPlace : Room := { frames := 2, cells := 0, slots := 0, locals := 42 }
set_option maxHeartbeats 4000000 in
set_option maxRecDepth 100000 in
theorem k_X9_needPlace (l : Launch) (D : va_G) (cI cZ : ClassId) (ad : Nat → Nat) (u : GS) (p0 : Int32) (p1 : Int32) {r : Int32} {w' : GS} (h : g_X9_needPlace u p0 p1 = some (.inl r, w')) : MV l yX9_needPlace (wm yX9_needPlace cX9_needPlace 2 none) rX9_needPlace D [(cI, .int), (cZ, .boolean)] (wC cI cZ ad u) (wC cI cZ ad w') [.int p0, .int p1] := by
  intro sz
  refine Met.ofW (cc := cX9_needPlace) (maxL := 2) (ret := none) (by decide) rfl ?_
  intro p e s m args below meth c s₁ B hml hv
  obtain ⟨rfl, hsz, hP, hK, hD0, hZ⟩ := hv
  have hx := B.exec
  have hb := B.bytes
  have hr := B.returns
  have hts : ∀ w ∈ Wall, w.before _ s = true := fun w hw => atoms_spec (ws := wm yX9_needPlace cX9_needPlace 2 none) B.pre w (List.mem_cons_of_mem _ hw)
  have hown : s.vm.findClass RX9 = some m.cls := findClass_of_methodNamed B.named
  have hlocks := B.notSynchronized
  subst hsz
  have hD := hD0.self (sz := s.heap.size)
  generalize hAe : va_A (wC cI cZ ad u) s.heap.size = A at hD hZ ⊢
  have hA : ∀ q : Nat, s.heap.size ≤ q → A q := fun q h => by rw [← hAe]; exact Or.inr h
  have hS : va_S A s.heap s.heap [] := va_S.rf
  have hl := lv_entry ([.int p0, .int p1]) (n := 2) (Nat.le_of_ble_eq_true rfl)
  rw [lg_entry_eq]
  generalize (lg_sl ([.int p0, .int p1]) ++ List.replicate (2 - (lg_sl ([.int p0, .int p1])).length) Slot.unset).toArray = ls at hl ⊢
  replace hl : lv_has ls 2 [(0, .int p0), (1, .int p1)] := hl
  refine w_gen (fun Q hQ => ?_)
  refine lv_iload_n hx hb dX9_needPlace_0 rfl (lv_at hl 0 rfl) ?_
  obtain ⟨y1, u2, hc3, h⟩ := gx_xr h
  refine cc_vS (As := [.int p0]) (rest := []) ⟨hx, hb, hml, hown, hts⟩ (k_X9_needSection l D cI cZ ad u p0 hc3) (va_cwS 1 hts (gwS mw_312 mw_313 mw_19 mw_314) rfl rfl rfl (by decide +kernel) ⟨Nat.le_of_ble_eq_true rfl, Nat.le_of_ble_eq_true rfl⟩) hK hP hD hS hA hZ rfl hl.1 rfl (Nat.le_of_ble_eq_true rfl) dX9_needPlace_1 ⟨Nat.zero_le _, Nat.zero_le _⟩ (fun H locs hP hD hS => ?_)
  refine lv_iload_n hx hb dX9_needPlace_4 rfl (lv_at hl 1 rfl) ?_
  refine lv_iconst (v := 0) hx hb dX9_needPlace_5 (by decide) ?_
  refine lv_iconst (v := 3) hx hb dX9_needPlace_6 (by decide) ?_
  obtain ⟨y4, hc5, h⟩ := gx_bind h
  refine cc_iS (As := [.int p1, .int (0 : Int32), .int (3 : Int32)]) (rest := []) ⟨hx, hb, hml, hown, hts⟩ (k_X9_isWithin l D cI cZ ad u2 p1 (0 : Int32) (3 : Int32) hc5) (va_cwS 3 hts (gwS mw_315 mw_243 mw_19 mw_244) rfl rfl rfl (by decide +kernel) ⟨Nat.le_of_ble_eq_true rfl, Nat.le_of_ble_eq_true rfl⟩) hK hP hD hS hA hZ rfl hl.1 rfl (Nat.le_of_ble_eq_true rfl) dX9_needPlace_7 ⟨Nat.zero_le _, Nat.zero_le _⟩ (fun H locs hP hD hS => ?_)
  obtain ⟨y6, u7, hc8, h⟩ := gx_xr h
  refine cc_vS (As := [.int y4]) (rest := []) ⟨hx, hb, hml, hown, hts⟩ (k_X9_needIndex l D cI cZ ad u2 y4 hc8) (va_cwS 1 hts (gwS mw_316 mw_317 mw_19 mw_318) rfl rfl rfl (by decide +kernel) ⟨Nat.le_of_ble_eq_true rfl, Nat.le_of_ble_eq_true rfl⟩) hK hP hD hS hA hZ rfl hl.1 rfl (Nat.le_of_ble_eq_true rfl) dX9_needPlace_10 ⟨Nat.zero_le _, Nat.zero_le _⟩ (fun H locs hP hD hS => ?_)
  cases h
  exact cc_vret hx hb hr hQ hK hP hD hS dX9_needPlace_13 hlocks

def rx_X9_needPlace : Room := { frames := 8, cells := 1, slots := 6, locals := 130 }
set_option maxHeartbeats 4000000 in
set_option maxRecDepth 100000 in
theorem kx_X9_needPlace (l : Launch) (hl0 : l.stackTraces = false) (D : va_G) (cI cZ : ClassId) (ad : Nat → Nat) (u : GS) (p0 : Int32) (p1 : Int32) {E : String} {w' : GS} (h : g_X9_needPlace u p0 p1 = some (.inr E, w')) : XV l yX9_needPlace (wm yX9_needPlace cX9_needPlace 2 none) rx_X9_needPlace D [(cI, .int), (cZ, .boolean)] (wC cI cZ ad u) (wC cI cZ ad w') [.int p0, .int p1] E := by
  intro sz
  refine vx_ofW (cc := cX9_needPlace) (maxL := 2) (ret := none) (by decide) rfl ?_
  intro p e s m args below meth c s₁ B hml hout hv
  obtain ⟨rfl, hsz, hP, hK, hD0, hZ⟩ := hv
  have hx := B.exec
  have hb := B.bytes
  have hts : ∀ w ∈ Wall, w.before _ s = true := fun w hw => atoms_spec (ws := wm yX9_needPlace cX9_needPlace 2 none) B.pre w (List.mem_cons_of_mem _ hw)
  have hown : s.vm.findClass RX9 = some m.cls := findClass_of_methodNamed B.named
  have hlocks := B.notSynchronized
  subst hsz
  have hD := hD0.self (sz := s.heap.size)
  generalize hAe : va_A (wC cI cZ ad u) s.heap.size = A at hD hZ
  have hA : ∀ q : Nat, s.heap.size ≤ q → A q := fun q h => by rw [← hAe]; exact Or.inr h
  have hS : va_S A s.heap s.heap [] := va_S.rf
  have hl := lv_entry ([.int p0, .int p1]) (n := 2) (Nat.le_of_ble_eq_true rfl)
  rw [lg_entry_eq]
  generalize (lg_sl ([.int p0, .int p1]) ++ List.replicate (2 - (lg_sl ([.int p0, .int p1])).length) Slot.unset).toArray = ls at hl ⊢
  replace hl : lv_has ls 2 [(0, .int p0), (1, .int p1)] := hl
  refine w_gen (fun Q hQ => ?_)
  refine lv_iload_n hx hb dX9_needPlace_0 rfl (lv_at hl 0 rfl) ?_
  rcases gx_xx h with ⟨y1, u2, hc3, h⟩ | ⟨u2, hc3, ew⟩
  · refine cc_vS (As := [.int p0]) (rest := []) ⟨hx, hb, hml, hown, hts⟩ (k_X9_needSection l D cI cZ ad u p0 hc3) (va_cwS 1 hts (gwS mw_312 mw_313 mw_19 mw_314) rfl rfl rfl (by decide +kernel) ⟨Nat.le_of_ble_eq_true rfl, Nat.le_of_ble_eq_true rfl⟩) hK hP hD hS hA hZ rfl hl.1 rfl (Nat.le_of_ble_eq_true rfl) dX9_needPlace_1 ⟨Nat.zero_le _, Nat.zero_le _⟩ (fun H locs hP hD hS => ?_)
    refine lv_iload_n hx hb dX9_needPlace_4 rfl (lv_at hl 1 rfl) ?_
    refine lv_iconst (v := 0) hx hb dX9_needPlace_5 (by decide) ?_
    refine lv_iconst (v := 3) hx hb dX9_needPlace_6 (by decide) ?_
    obtain ⟨y4, hc5, h⟩ := gx_bind h
    refine cc_iS (As := [.int p1, .int (0 : Int32), .int (3 : Int32)]) (rest := []) ⟨hx, hb, hml, hown, hts⟩ (k_X9_isWithin l D cI cZ ad u2 p1 (0 : Int32) (3 : Int32) hc5) (va_cwS 3 hts (gwS mw_315 mw_243 mw_19 mw_244) rfl rfl rfl (by decide +kernel) ⟨Nat.le_of_ble_eq_true rfl, Nat.le_of_ble_eq_true rfl⟩) hK hP hD hS hA hZ rfl hl.1 rfl (Nat.le_of_ble_eq_true rfl) dX9_needPlace_7 ⟨Nat.zero_le _, Nat.zero_le _⟩ (fun H locs hP hD hS => ?_)
    rcases gx_xx h with ⟨y6, u7, hc8, h⟩ | ⟨u7, hc8, ew⟩
    · refine cc_vS (As := [.int y4]) (rest := []) ⟨hx, hb, hml, hown, hts⟩ (k_X9_needIndex l D cI cZ ad u2 y4 hc8) (va_cwS 1 hts (gwS mw_316 mw_317 mw_19 mw_318) rfl rfl rfl (by decide +kernel) ⟨Nat.le_of_ble_eq_true rfl, Nat.le_of_ble_eq_true rfl⟩) hK hP hD hS hA hZ rfl hl.1 rfl (Nat.le_of_ble_eq_true rfl) dX9_needPlace_10 ⟨Nat.zero_le _, Nat.zero_le _⟩ (fun H locs hP hD hS => ?_)
      cases h
    · replace ew : u7 = w' := ew
      subst ew
      refine cX_vS (As := [.int y4]) (rest := []) ⟨hx, hb, hml, hown, hts⟩ (kx_X9_needIndex l hl0 D cI cZ ad u2 y4 hc8) (va_cwS 1 hts (gwS mw_316 mw_317 mw_19 mw_318) rfl rfl rfl (by decide +kernel) ⟨Nat.le_of_ble_eq_true rfl, Nat.le_of_ble_eq_true rfl⟩) hK hP hD hS hA hZ rfl hl.1 rfl (Nat.le_of_ble_eq_true rfl) dX9_needPlace_10 ⟨Nat.le_of_ble_eq_true rfl, Nat.le_of_ble_eq_true rfl⟩ (fun ce q9 H locs hP hD hS hz h1 h2 h3 => ?_)
      exact cX_back hAe hQ hout hlocks hK rfl hP hD hS hz h1 h2 h3 (Nat.le_refl _) (Nat.le_refl _)
  · replace ew : u2 = w' := ew
    subst ew
    refine cX_vS (As := [.int p0]) (rest := []) ⟨hx, hb, hml, hown, hts⟩ (kx_X9_needSection l hl0 D cI cZ ad u p0 hc3) (va_cwS 1 hts (gwS mw_312 mw_313 mw_19 mw_314) rfl rfl rfl (by decide +kernel) ⟨Nat.le_of_ble_eq_true rfl, Nat.le_of_ble_eq_true rfl⟩) hK hP hD hS hA hZ rfl hl.1 rfl (Nat.le_of_ble_eq_true rfl) dX9_needPlace_1 ⟨Nat.le_of_ble_eq_true rfl, Nat.le_of_ble_eq_true rfl⟩ (fun ce q9 H locs hP hD hS hz h1 h2 h3 => ?_)
    exact cX_back hAe hQ hout hlocks hK rfl hP hD hS hz h1 h2 h3 (Nat.le_refl _) (Nat.le_refl _)

def rX9_sign : Room := { frames := 5, cells := 0, slots := 0, locals := 114 }
set_option maxHeartbeats 4000000 in
set_option maxRecDepth 100000 in
theorem k_X9_sign (l : Launch) (D : va_G) (cI cZ : ClassId) (ad : Nat → Nat) (u : GS) (p0 : Int32) (p1 : Int32) {r : Int32} {w' : GS} (h : g_X9_sign u p0 p1 = some (.inl r, w')) : MI l yX9_sign (wm yX9_sign cX9_sign 3 (some .int)) rX9_sign D [(cI, .int), (cZ, .boolean)] (wC cI cZ ad u) (wC cI cZ ad w') [.ref (ad 0), .int p0, .int p1] r := by
  intro sz
  refine Met.ofW (cc := cX9_sign) (maxL := 3) (ret := (some .int)) (by decide) rfl ?_
  intro p e s m args below meth c s₁ B hml hv
  obtain ⟨rfl, hsz, hP, hK, hD0, hZ⟩ := hv
  have hx := B.exec
  have hb := B.bytes
  have hr := B.returns
  have hts : ∀ w ∈ Wall, w.before _ s = true := fun w hw => atoms_spec (ws := wm yX9_sign cX9_sign 3 (some .int)) B.pre w (List.mem_cons_of_mem _ hw)
  have hown : s.vm.findClass RX9 = some m.cls := findClass_of_methodNamed B.named
  have hlocks := B.notSynchronized
  subst hsz
  have hD := hD0.self (sz := s.heap.size)
  generalize hAe : va_A (wC cI cZ ad u) s.heap.size = A at hD hZ ⊢
  have hA : ∀ q : Nat, s.heap.size ≤ q → A q := fun q h => by rw [← hAe]; exact Or.inr h
  have hS : va_S A s.heap s.heap [] := va_S.rf
  have hf37 := hts _ mw_278
  have hf84 := hts _ mw_128
  have hl := lv_entry ([.ref (ad 0), .int p0, .int p1]) (n := 3) (Nat.le_of_ble_eq_true rfl)
  rw [lg_entry_eq]
  generalize (lg_sl ([.ref (ad 0), .int p0, .int p1]) ++ List.replicate (3 - (lg_sl ([.ref (ad 0), .int p0, .int p1])).length) Slot.unset).toArray = ls at hl ⊢
  replace hl : lv_has ls 3 [(0, .ref (ad 0)), (1, .int p0), (2, .int p1)] := hl
  refine w_gen (fun Q hQ => ?_)
  refine lv_iload_n hx hb dX9_sign_0 rfl (lv_at hl 1 rfl) ?_
  refine lv_iload_n hx hb dX9_sign_1 rfl (lv_at hl 2 rfl) ?_
  obtain ⟨y1, u2, hc3, h⟩ := gx_xr h
  refine cc_vS (As := [.int p0, .int p1]) (rest := []) ⟨hx, hb, hml, hown, hts⟩ (k_X9_needPlace l D cI cZ ad u p0 p1 hc3) (va_cwS 2 hts (gwS mw_309 mw_310 mw_19 mw_311) rfl rfl rfl (by decide +kernel) ⟨Nat.le_of_ble_eq_true rfl, Nat.le_of_ble_eq_true rfl⟩) hK hP hD hS hA hZ rfl hl.1 rfl (Nat.le_of_ble_eq_true rfl) dX9_sign_2 ⟨Nat.zero_le _, Nat.zero_le _⟩ (fun H locs hP hD hS => ?_)
  refine lv_aload_n hx hb dX9_sign_5 rfl (lv_at hl 0 rfl) ?_
  obtain ⟨y4, hc5, h⟩ := gx_bind h
  refine cc_vV (As := []) (rest := []) ⟨hx, hb, hml, hown, hts⟩ (k_X9_setLaneSigns l D cI cZ ad u2 hc5) (cwV 0 hts (gwV mw_387 mw_389 mw_2 mw_19 mw_390) rfl rfl rfl (by decide +kernel) ⟨Nat.le_of_ble_eq_true rfl, Nat.le_of_ble_eq_true rfl⟩) hK hP hD hS hA hZ (ci := 9) (q0 := 0) rfl rfl rfl hl.1 rfl (Nat.le_of_ble_eq_true rfl) dX9_sign_6 ⟨Nat.zero_le _, Nat.zero_le _⟩ (fun H locs hP hD hS => ?_)
  refine lv_aload_n hx hb dX9_sign_9 rfl (lv_at hl 0 rfl) ?_
  refine va_get (D := D) (ci := 9) (v := .ref (ad 4)) (C := RX9) (T := TX9) (N := 10) hx hb hts iX9 hown hK hP 0 rfl rfl 4 (by decide) hf37 (fun _ h9 => h9) rfl dX9_sign_10 ?_
  refine va_get (D := D) (ci := 3) (v := .ref (ad 20)) (C := RX3) (T := TX3) (N := 3) hx hb hts iX3 hown hK hP 4 rfl rfl 2 (by decide) hf84 (fun _ h9 => h9) rfl dX9_sign_13 ?_
  refine lv_iload_n hx hb dX9_sign_16 rfl (lv_at hl 1 rfl) ?_
  refine lv_iload_n hx hb dX9_sign_17 rfl (lv_at hl 2 rfl) ?_
  obtain ⟨y6, hc7, h⟩ := gx_bind h
  refine cc_iS (As := [.int p0, .int p1]) (rest := [.ref (ad 20)]) ⟨hx, hb, hml, hown, hts⟩ (k_X9_placeOf l D cI cZ ad y4 p0 p1 hc7) (va_cwS 2 hts (gwS mw_391 mw_236 mw_19 mw_237) rfl rfl rfl (by decide +kernel) ⟨Nat.le_of_ble_eq_true rfl, Nat.le_of_ble_eq_true rfl⟩) hK hP hD hS hA hZ rfl hl.1 rfl (Nat.le_of_ble_eq_true rfl) dX9_sign_18 ⟨Nat.zero_le _, Nat.zero_le _⟩ (fun H locs hP hD hS => ?_)
  obtain ⟨b8, h⟩ := gx_in h
  refine va_iald (D := D) hx hb hK hP 20 0 rfl rfl b8 dX9_sign_21 ?_
  cases h
  exact cc_ret hx hb hr rfl hQ hK hP hD hS rfl dX9_sign_22 hlocks

def rX9_needArgument : Room := { frames := 0, cells := 0, slots := 0, locals := 0 }
set_option maxHeartbeats 4000000 in
set_option maxRecDepth 100000 in
theorem k_X9_needArgument (l : Launch) (D : va_G) (cI cZ : ClassId) (ad : Nat → Nat) (u : GS) (p0 : Int32) {r : Int32} {w' : GS} (h : g_X9_needArgument u p0 = some (.inl r, w')) : MV l yX9_needArgument (wm yX9_needArgument cX9_needArgument 1 none) rX9_needArgument D [(cI, .int), (cZ, .boolean)] (wC cI cZ ad u) (wC cI cZ ad w') [.int p0] := by
  intro sz
  refine Met.ofW (cc := cX9_needArgument) (maxL := 1) (ret := none) (by decide) rfl ?_
  intro p e s m args below meth c s₁ B hml hv
  obtain ⟨rfl, hsz, hP, hK, hD0, hZ⟩ := hv
  have hx := B.exec
  have hb := B.bytes
  have hr := B.returns
  have hts : ∀ w ∈ Wall, w.before _ s = true := fun w hw => atoms_spec (ws := wm yX9_needArgument cX9_needArgument 1 none) B.pre w (List.mem_cons_of_mem _ hw)
  have hown : s.vm.findClass RX9 = some m.cls := findClass_of_methodNamed B.named
  have hlocks := B.notSynchronized
  subst hsz
  have hD := hD0.self (sz := s.heap.size)
  generalize hAe : va_A (wC cI cZ ad u) s.heap.size = A at hD hZ ⊢
  have hA : ∀ q : Nat, s.heap.size ≤ q → A q := fun q h => by rw [← hAe]; exact Or.inr h
  have hS : va_S A s.heap s.heap [] := va_S.rf
  have hl := lv_entry ([.int p0]) (n := 1) (Nat.le_of_ble_eq_true rfl)
  rw [lg_entry_eq]
  generalize (lg_sl ([.int p0]) ++ List.replicate (1 - (lg_sl ([.int p0])).length) Slot.unset).toArray = ls at hl ⊢
  replace hl : lv_has ls 1 [(0, .int p0)] := hl
  refine w_gen (fun Q hQ => ?_)
  refine lv_iload_n hx hb dX9_needArgument_0 rfl (lv_at hl 0 rfl) ?_
  refine lv_if_ne (tgt := 15) hx hb dX9_needArgument_1 (by decide) (fun c1 => ?_) (fun c1 => ?_)
  · replace h := gx_f c1 h
    cases h
    exact cc_vret hx hb hr hQ hK hP hD hS dX9_needArgument_15 hlocks
  · replace h := gx_t c1 h
    cases h

def rX5_isKept : Room := { frames := 1, cells := 0, slots := 0, locals := 22 }
set_option maxHeartbeats 4000000 in
set_option maxRecDepth 100000 in
theorem k_X5_isKept (l : Launch) (D : va_G) (cI cZ : ClassId) (ad : Nat → Nat) (u : GS) (p0 : Int32) (p1 : Int32) {r : Int32} (h : g_X5_isKept p0 p1 = some r) : MI l yX5_isKept (wm yX5_isKept cX5_isKept 2 (some .boolean)) rX5_isKept D [(cI, .int), (cZ, .boolean)] (wC cI cZ ad u) (wC cI cZ ad u) [.int p0, .int p1] r := by
  intro sz
  refine Met.ofW (cc := cX5_isKept) (maxL := 2) (ret := (some .boolean)) (by decide) rfl ?_
  intro p e s m args below meth c s₁ B hml hv
  obtain ⟨rfl, hsz, hP, hK, hD0, hZ⟩ := hv
  have hx := B.exec
  have hb := B.bytes
  have hr := B.returns
  have hts : ∀ w ∈ Wall, w.before _ s = true := fun w hw => atoms_spec (ws := wm yX5_isKept cX5_isKept 2 (some .boolean)) B.pre w (List.mem_cons_of_mem _ hw)
  have hown : s.vm.findClass RX5 = some m.cls := findClass_of_methodNamed B.named
  have hlocks := B.notSynchronized
  subst hsz
  have hD := hD0.self (sz := s.heap.size)
  generalize hAe : va_A (wC cI cZ ad u) s.heap.size = A at hD hZ ⊢
  have hA : ∀ q : Nat, s.heap.size ≤ q → A q := fun q h => by rw [← hAe]; exact Or.inr h
  have hS : va_S A s.heap s.heap [] := va_S.rf
  have hl := lv_entry ([.int p0, .int p1]) (n := 2) (Nat.le_of_ble_eq_true rfl)
  rw [lg_entry_eq]
  generalize (lg_sl ([.int p0, .int p1]) ++ List.replicate (2 - (lg_sl ([.int p0, .int p1])).length) Slot.unset).toArray = ls at hl ⊢
  replace hl : lv_has ls 2 [(0, .int p0), (1, .int p1)] := hl
  refine w_gen (fun Q hQ => ?_)
  refine lv_iload_n hx hb dX5_isKept_0 rfl (lv_at hl 0 rfl) ?_
  refine lv_iload_n hx hb dX5_isKept_1 rfl (lv_at hl 1 rfl) ?_
  refine lv_bipush (v := 60) hx hb dX5_isKept_2 (by decide) ?_
  refine lv_isub hx hb dX5_isKept_4 ?_
  refine lv_iconst (v := 1) hx hb dX5_isKept_5 (by decide) ?_
  refine lv_iadd hx hb dX5_isKept_6 ?_
  refine lv_iload_n hx hb dX5_isKept_7 rfl (lv_at hl 1 rfl) ?_
  obtain ⟨y1, hc2, h⟩ := gx_bind h
  refine cc_iSN (As := [.int p0, .int ((p1 - (60 : Int32)) + (1 : Int32)), .int p1]) (rest := []) ⟨hx, hb, hml, hown, hts⟩ (k_X9_isWithin l D cI cZ ad u p0 ((p1 - (60 : Int32)) + (1 : Int32)) p1 hc2) ⟨va_cnB 3 hts (gwM mw_244) rfl rfl rfl (hZ.1 ("RedcrossGantry$Proofs", 15, yX9_isWithin) (by decide +kernel)) (hts _ mw_19) (by decide +kernel) ⟨Nat.le_of_ble_eq_true rfl, Nat.le_of_ble_eq_true rfl⟩, hts _ mw_243, trivial⟩ hK hP hD hS hA hZ rfl hl.1 rfl (Nat.le_of_ble_eq_true rfl) dX5_isKept_8 ⟨Nat.zero_le _, Nat.zero_le _⟩ (fun H locs hP hD hS => ?_)
  obtain ⟨bo, h⟩ := gx_bo h
  cases h
  exact cc_ret hx hb hr bo hQ hK hP hD hS rfl dX5_isKept_11 hlocks

def rX9_needState : Room := { frames := 0, cells := 0, slots := 0, locals := 0 }
set_option maxHeartbeats 4000000 in
set_option maxRecDepth 100000 in
theorem k_X9_needState (l : Launch) (D : va_G) (cI cZ : ClassId) (ad : Nat → Nat) (u : GS) (p0 : Int32) {r : Int32} {w' : GS} (h : g_X9_needState u p0 = some (.inl r, w')) : MV l yX9_needState (wm yX9_needState cX9_needState 1 none) rX9_needState D [(cI, .int), (cZ, .boolean)] (wC cI cZ ad u) (wC cI cZ ad w') [.int p0] := by
  intro sz
  refine Met.ofW (cc := cX9_needState) (maxL := 1) (ret := none) (by decide) rfl ?_
  intro p e s m args below meth c s₁ B hml hv
  obtain ⟨rfl, hsz, hP, hK, hD0, hZ⟩ := hv
  have hx := B.exec
  have hb := B.bytes
  have hr := B.returns
  have hts : ∀ w ∈ Wall, w.before _ s = true := fun w hw => atoms_spec (ws := wm yX9_needState cX9_needState 1 none) B.pre w (List.mem_cons_of_mem _ hw)
  have hown : s.vm.findClass RX9 = some m.cls := findClass_of_methodNamed B.named
  have hlocks := B.notSynchronized
  subst hsz
  have hD := hD0.self (sz := s.heap.size)
  generalize hAe : va_A (wC cI cZ ad u) s.heap.size = A at hD hZ ⊢
  have hA : ∀ q : Nat, s.heap.size ≤ q → A q := fun q h => by rw [← hAe]; exact Or.inr h
  have hS : va_S A s.heap s.heap [] := va_S.rf
  have hl := lv_entry ([.int p0]) (n := 1) (Nat.le_of_ble_eq_true rfl)
  rw [lg_entry_eq]
  generalize (lg_sl ([.int p0]) ++ List.replicate (1 - (lg_sl ([.int p0])).length) Slot.unset).toArray = ls at hl ⊢
  replace hl : lv_has ls 1 [(0, .int p0)] := hl
  refine w_gen (fun Q hQ => ?_)
  refine lv_iload_n hx hb dX9_needState_0 rfl (lv_at hl 0 rfl) ?_
  refine lv_if_ne (tgt := 15) hx hb dX9_needState_1 (by decide) (fun c1 => ?_) (fun c1 => ?_)
  · replace h := gx_f c1 h
    cases h
    exact cc_vret hx hb hr hQ hK hP hD hS dX9_needState_15 hlocks
  · replace h := gx_t c1 h
    cases h

def rx_X9_needState : Room := { frames := 6, cells := 1, slots := 6, locals := 90 }
set_option maxHeartbeats 4000000 in
set_option maxRecDepth 100000 in
theorem kx_X9_needState (l : Launch) (hl0 : l.stackTraces = false) (D : va_G) (cI cZ : ClassId) (ad : Nat → Nat) (u : GS) (p0 : Int32) {E : String} {w' : GS} (h : g_X9_needState u p0 = some (.inr E, w')) : XV l yX9_needState (wm yX9_needState cX9_needState 1 none) rx_X9_needState D [(cI, .int), (cZ, .boolean)] (wC cI cZ ad u) (wC cI cZ ad w') [.int p0] E := by
  intro sz
  refine vx_ofW (cc := cX9_needState) (maxL := 1) (ret := none) (by decide) rfl ?_
  intro p e s m args below meth c s₁ B hml hout hv
  obtain ⟨rfl, hsz, hP, hK, hD0, hZ⟩ := hv
  have hx := B.exec
  have hb := B.bytes
  have hts : ∀ w ∈ Wall, w.before _ s = true := fun w hw => atoms_spec (ws := wm yX9_needState cX9_needState 1 none) B.pre w (List.mem_cons_of_mem _ hw)
  have hown : s.vm.findClass RX9 = some m.cls := findClass_of_methodNamed B.named
  have hlocks := B.notSynchronized
  subst hsz
  have hD := hD0.self (sz := s.heap.size)
  generalize hAe : va_A (wC cI cZ ad u) s.heap.size = A at hD hZ
  have hA : ∀ q : Nat, s.heap.size ≤ q → A q := fun q h => by rw [← hAe]; exact Or.inr h
  have hS : va_S A s.heap s.heap [] := va_S.rf
  have hl := lv_entry ([.int p0]) (n := 1) (Nat.le_of_ble_eq_true rfl)
  rw [lg_entry_eq]
  generalize (lg_sl ([.int p0]) ++ List.replicate (1 - (lg_sl ([.int p0])).length) Slot.unset).toArray = ls at hl ⊢
  replace hl : lv_has ls 1 [(0, .int p0)] := hl
  refine w_gen (fun Q hQ => ?_)
  refine lv_iload_n hx hb dX9_needState_0 rfl (lv_at hl 0 rfl) ?_
  refine lv_if_ne (tgt := 15) hx hb dX9_needState_1 (by decide) (fun c1 => ?_) (fun c1 => ?_)
  · replace h := gx_f c1 h
    cases h
  · replace h := gx_t c1 h
    cases h
    obtain ⟨sa, hstr⟩ := hZ.2.2.2.2.2.2.2.1
    exact cX_throw (names := ["java/lang/RuntimeException", "java/lang/Exception"]) hx hb hl0 hown (by decide +kernel) (by decide +kernel) (hts _ mw_458) (hts _ mw_35) hstr (fun w h => hts w (at_ise w h)) (by decide +kernel) hZ.2.2.2.2.2.2.2.2 (by decide +kernel) (by decide +kernel) hAe hZ.2.2.2.2.1 hQ hout hlocks hK hP hD hS (hl.1.trans hml.symm) dX9_needState_4 dX9_needState_7 dX9_needState_8 dX9_needState_11 dX9_needState_14 (Nat.le_of_ble_eq_true rfl) (Nat.le_of_ble_eq_true rfl) (Nat.le_of_ble_eq_true rfl) (Nat.le_of_ble_eq_true rfl)

def rJ9_floorMod_7cf53 : Room := { frames := 0, cells := 0, slots := 0, locals := 0 }
set_option maxHeartbeats 4000000 in
set_option maxRecDepth 100000 in
theorem k_J9_floorMod_7cf53 (l : Launch) (D : va_G) (cI cZ : ClassId) (ad : Nat → Nat) (u : GS) (p0 : Int32) (p1 : Int32) {r : Int32} (h : g_J9_floorMod_7cf53 p0 p1 = some r) : MI l yJ9_floorMod_7cf53 (wm yJ9_floorMod_7cf53 cJ9_floorMod_7cf53 3 (some .int)) rJ9_floorMod_7cf53 D [(cI, .int), (cZ, .boolean)] (wC cI cZ ad u) (wC cI cZ ad u) [.int p0, .int p1] r := by
  intro sz
  refine cc_ofWF (cc := cJ9_floorMod_7cf53) (maxL := 3) (ret := (some .int)) (by decide +kernel) rfl ?_
  intro p e s m args below meth c s₁ B hml hv
  obtain ⟨rfl, hsz, hP, hK, hD0, hZ⟩ := hv
  have hx := B.exec
  have hb := B.bytes
  have hr := B.returns
  have hts : ∀ w ∈ Wall, w.before _ s = true := fun w hw => atoms_spec (ws := wm yJ9_floorMod_7cf53 cJ9_floorMod_7cf53 3 (some .int)) B.pre w (List.mem_cons_of_mem _ hw)
  have hown : s.vm.findClass RJ9 = some m.cls := findClass_of_methodNamed B.named
  have hlocks := B.notSynchronized
  subst hsz
  have hD := hD0.self (sz := s.heap.size)
  generalize hAe : va_A (wC cI cZ ad u) s.heap.size = A at hD hZ ⊢
  have hA : ∀ q : Nat, s.heap.size ≤ q → A q := fun q h => by rw [← hAe]; exact Or.inr h
  have hS : va_S A s.heap s.heap [] := va_S.rf
  have hl := lv_entry ([.int p0, .int p1]) (n := 3) (Nat.le_of_ble_eq_true rfl)
  rw [lg_entry_eq]
  generalize (lg_sl ([.int p0, .int p1]) ++ List.replicate (3 - (lg_sl ([.int p0, .int p1])).length) Slot.unset).toArray = ls at hl ⊢
  replace hl : lv_has ls 3 [(0, .int p0), (1, .int p1)] := hl
  refine w_gen (fun Q hQ => ?_)
  refine lv_iload_n hx hb dJ9_floorMod_7cf53_0 rfl (lv_at hl 0 rfl) ?_
  refine lv_iload_n hx hb dJ9_floorMod_7cf53_1 rfl (lv_at hl 1 rfl) ?_
  obtain ⟨n1, h⟩ := gx_nz h
  refine lv_irem hx hb dJ9_floorMod_7cf53_2 n1 ?_
  obtain ⟨v2, ev2, h⟩ := gx_let h
  refine lv_topn ev2 ?_
  refine lv_istore_n (lv' := [(2, .int v2), (0, .int p0), (1, .int p1)]) hx hb dJ9_floorMod_7cf53_3 rfl hl (by decide) rfl (fun ls hl => ?_)
  refine lv_iload_n hx hb dJ9_floorMod_7cf53_4 rfl (lv_at hl 1 rfl) ?_
  refine lv_iload_n hx hb dJ9_floorMod_7cf53_5 rfl (lv_at hl 2 rfl) ?_
  refine lv_ixor hx hb dJ9_floorMod_7cf53_6 ?_
  refine lv_if_ge (tgt := 18) hx hb dJ9_floorMod_7cf53_7 (by decide) (fun c3 => ?_) (fun c3 => ?_)
  · replace h := gx_t c3 h
    refine lv_iload_n hx hb dJ9_floorMod_7cf53_18 rfl (lv_at hl 0 rfl) ?_
    cases h
    exact cc_ret hx hb hr rfl hQ hK hP hD hS rfl dJ9_floorMod_7cf53_19 hlocks
  · replace h := gx_f c3 h
    refine lv_iload_n hx hb dJ9_floorMod_7cf53_10 rfl (lv_at hl 0 rfl) ?_
    refine lv_if_eq (tgt := 18) hx hb dJ9_floorMod_7cf53_11 (by decide) (fun c4 => ?_) (fun c4 => ?_)
    · replace h := gx_t c4 h
      refine lv_iload_n hx hb dJ9_floorMod_7cf53_18 rfl (lv_at hl 0 rfl) ?_
      cases h
      exact cc_ret hx hb hr rfl hQ hK hP hD hS rfl dJ9_floorMod_7cf53_19 hlocks
    · replace h := gx_f c4 h
      refine lv_iload_n hx hb dJ9_floorMod_7cf53_14 rfl (lv_at hl 0 rfl) ?_
      refine lv_iload_n hx hb dJ9_floorMod_7cf53_15 rfl (lv_at hl 2 rfl) ?_
      refine lv_iadd hx hb dJ9_floorMod_7cf53_16 ?_
      cases h
      exact cc_ret hx hb hr rfl hQ hK hP hD hS rfl dJ9_floorMod_7cf53_17 hlocks

def rX5_slotOf : Room := { frames := 1, cells := 0, slots := 0, locals := 22 }
set_option maxHeartbeats 4000000 in
set_option maxRecDepth 100000 in
theorem k_X5_slotOf (l : Launch) (D : va_G) (cI cZ : ClassId) (ad : Nat → Nat) (u : GS) (p0 : Int32) (p1 : Int32) {r : Int32} (h : g_X5_slotOf p0 p1 = some r) : MI l yX5_slotOf (wm yX5_slotOf cX5_slotOf 2 (some .int)) rX5_slotOf D [(cI, .int), (cZ, .boolean)] (wC cI cZ ad u) (wC cI cZ ad u) [.int p0, .int p1] r := by
  intro sz
  refine Met.ofW (cc := cX5_slotOf) (maxL := 2) (ret := (some .int)) (by decide) rfl ?_
  intro p e s m args below meth c s₁ B hml hv
  obtain ⟨rfl, hsz, hP, hK, hD0, hZ⟩ := hv
  have hx := B.exec
  have hb := B.bytes
  have hr := B.returns
  have hts : ∀ w ∈ Wall, w.before _ s = true := fun w hw => atoms_spec (ws := wm yX5_slotOf cX5_slotOf 2 (some .int)) B.pre w (List.mem_cons_of_mem _ hw)
  have hown : s.vm.findClass RX5 = some m.cls := findClass_of_methodNamed B.named
  have hlocks := B.notSynchronized
  subst hsz
  have hD := hD0.self (sz := s.heap.size)
  generalize hAe : va_A (wC cI cZ ad u) s.heap.size = A at hD hZ ⊢
  have hA : ∀ q : Nat, s.heap.size ≤ q → A q := fun q h => by rw [← hAe]; exact Or.inr h
  have hS : va_S A s.heap s.heap [] := va_S.rf
  have hl := lv_entry ([.int p0, .int p1]) (n := 2) (Nat.le_of_ble_eq_true rfl)
  rw [lg_entry_eq]
  generalize (lg_sl ([.int p0, .int p1]) ++ List.replicate (2 - (lg_sl ([.int p0, .int p1])).length) Slot.unset).toArray = ls at hl ⊢
  replace hl : lv_has ls 2 [(0, .int p0), (1, .int p1)] := hl
  refine w_gen (fun Q hQ => ?_)
  refine lv_iload_n hx hb dX5_slotOf_0 rfl (lv_at hl 0 rfl) ?_
  refine lv_bipush (v := 60) hx hb dX5_slotOf_1 (by decide) ?_
  obtain ⟨y1, hc2, h⟩ := gx_bind h
  refine cc_iS (As := [.int p0, .int (60 : Int32)]) (rest := []) ⟨hx, hb, hml, hown, hts⟩ (k_J9_floorMod_7cf53 l D cI cZ ad u p0 (60 : Int32) hc2) (va_cwS 2 hts (gwS mw_271 mw_272 mw_29 mw_273) rfl rfl rfl (by decide +kernel) ⟨Nat.le_of_ble_eq_true rfl, Nat.le_of_ble_eq_true rfl⟩) hK hP hD hS hA hZ rfl hl.1 rfl (Nat.le_of_ble_eq_true rfl) dX5_slotOf_3 ⟨Nat.zero_le _, Nat.zero_le _⟩ (fun H locs hP hD hS => ?_)
  refine lv_bipush (v := 12) hx hb dX5_slotOf_6 (by decide) ?_
  refine lv_imul hx hb dX5_slotOf_8 ?_
  refine lv_iload_n hx hb dX5_slotOf_9 rfl (lv_at hl 1 rfl) ?_
  refine lv_iadd hx hb dX5_slotOf_10 ?_
  cases h
  exact cc_ret hx hb hr rfl hQ hK hP hD hS rfl dX5_slotOf_11 hlocks

def rX5_laneSign : Room := { frames := 2, cells := 0, slots := 0, locals := 43 }
set_option maxHeartbeats 4000000 in
set_option maxRecDepth 100000 in
theorem k_X5_laneSign (l : Launch) (D : va_G) (cI cZ : ClassId) (ad : Nat → Nat) (u : GS) (p0 : Int32) (p1 : Int32) (p2 : Int32) {r : Int32} (h : g_X5_laneSign u p0 p1 p2 = some r) : MI l yX5_laneSign (wm yX5_laneSign cX5_laneSign 4 (some .int)) rX5_laneSign D [(cI, .int), (cZ, .boolean)] (wC cI cZ ad u) (wC cI cZ ad u) [.ref (ad 9), .int p0, .int p1, .int p2] r := by
  intro sz
  refine Met.ofW (cc := cX5_laneSign) (maxL := 4) (ret := (some .int)) (by decide) rfl ?_
  intro p e s m args below meth c s₁ B hml hv
  obtain ⟨rfl, hsz, hP, hK, hD0, hZ⟩ := hv
  have hx := B.exec
  have hb := B.bytes
  have hr := B.returns
  have hts : ∀ w ∈ Wall, w.before _ s = true := fun w hw => atoms_spec (ws := wm yX5_laneSign cX5_laneSign 4 (some .int)) B.pre w (List.mem_cons_of_mem _ hw)
  have hown : s.vm.findClass RX5 = some m.cls := findClass_of_methodNamed B.named
  have hlocks := B.notSynchronized
  subst hsz
  have hD := hD0.self (sz := s.heap.size)
  generalize hAe : va_A (wC cI cZ ad u) s.heap.size = A at hD hZ ⊢
  have hA : ∀ q : Nat, s.heap.size ≤ q → A q := fun q h => by rw [← hAe]; exact Or.inr h
  have hS : va_S A s.heap s.heap [] := va_S.rf
  have hf11 := hts _ mw_223
  have hl := lv_entry ([.ref (ad 9), .int p0, .int p1, .int p2]) (n := 4) (Nat.le_of_ble_eq_true rfl)
  rw [lg_entry_eq]
  generalize (lg_sl ([.ref (ad 9), .int p0, .int p1, .int p2]) ++ List.replicate (4 - (lg_sl ([.ref (ad 9), .int p0, .int p1, .int p2])).length) Slot.unset).toArray = ls at hl ⊢
  replace hl : lv_has ls 4 [(0, .ref (ad 9)), (1, .int p0), (2, .int p1), (3, .int p2)] := hl
  refine w_gen (fun Q hQ => ?_)
  refine lv_aload_n hx hb dX5_laneSign_0 rfl (lv_at hl 0 rfl) ?_
  refine va_get (D := D) (ci := 5) (v := .ref (ad 34)) (C := RX5) (T := TX5) (N := 1) hx hb hts iX5 hown hK hP 9 rfl rfl 0 (by decide) hf11 (fun _ h9 => h9) rfl dX5_laneSign_1 ?_
  refine lv_iload_n hx hb dX5_laneSign_4 rfl (lv_at hl 1 rfl) ?_
  refine lv_iload_n hx hb dX5_laneSign_5 rfl (lv_at hl 2 rfl) ?_
  obtain ⟨y1, hc2, h⟩ := gx_bind h
  refine cc_iS (As := [.int p0, .int p1]) (rest := [.ref (ad 34)]) ⟨hx, hb, hml, hown, hts⟩ (k_X5_slotOf l D cI cZ ad u p0 p1 hc2) (va_cwS 2 hts (gwS mw_268 mw_269 mw_28 mw_270) rfl rfl rfl (by decide +kernel) ⟨Nat.le_of_ble_eq_true rfl, Nat.le_of_ble_eq_true rfl⟩) hK hP hD hS hA hZ rfl hl.1 rfl (Nat.le_of_ble_eq_true rfl) dX5_laneSign_6 ⟨Nat.zero_le _, Nat.zero_le _⟩ (fun H locs hP hD hS => ?_)
  obtain ⟨b3, h⟩ := gx_in h
  refine va_iald (D := D) hx hb hK hP 34 0 rfl rfl b3 dX5_laneSign_9 ?_
  refine lv_iconst (v := 2) hx hb dX5_laneSign_10 (by decide) ?_
  refine lv_iload_n hx hb dX5_laneSign_11 rfl (lv_at hl 3 rfl) ?_
  refine lv_imul hx hb dX5_laneSign_12 ?_
  refine lv_ishr hx hb dX5_laneSign_13 ?_
  refine lv_iconst (v := 3) hx hb dX5_laneSign_14 (by decide) ?_
  refine lv_iand hx hb dX5_laneSign_15 ?_
  cases h
  exact cc_ret hx hb hr rfl hQ hK hP hD hS rfl dX5_laneSign_16 hlocks

def rX5_speedSign : Room := { frames := 2, cells := 0, slots := 0, locals := 43 }
set_option maxHeartbeats 4000000 in
set_option maxRecDepth 100000 in
theorem k_X5_speedSign (l : Launch) (D : va_G) (cI cZ : ClassId) (ad : Nat → Nat) (u : GS) (p0 : Int32) (p1 : Int32) {r : Int32} (h : g_X5_speedSign u p0 p1 = some r) : MI l yX5_speedSign (wm yX5_speedSign cX5_speedSign 3 (some .int)) rX5_speedSign D [(cI, .int), (cZ, .boolean)] (wC cI cZ ad u) (wC cI cZ ad u) [.ref (ad 9), .int p0, .int p1] r := by
  intro sz
  refine Met.ofW (cc := cX5_speedSign) (maxL := 3) (ret := (some .int)) (by decide) rfl ?_
  intro p e s m args below meth c s₁ B hml hv
  obtain ⟨rfl, hsz, hP, hK, hD0, hZ⟩ := hv
  have hx := B.exec
  have hb := B.bytes
  have hr := B.returns
  have hts : ∀ w ∈ Wall, w.before _ s = true := fun w hw => atoms_spec (ws := wm yX5_speedSign cX5_speedSign 3 (some .int)) B.pre w (List.mem_cons_of_mem _ hw)
  have hown : s.vm.findClass RX5 = some m.cls := findClass_of_methodNamed B.named
  have hlocks := B.notSynchronized
  subst hsz
  have hD := hD0.self (sz := s.heap.size)
  generalize hAe : va_A (wC cI cZ ad u) s.heap.size = A at hD hZ ⊢
  have hA : ∀ q : Nat, s.heap.size ≤ q → A q := fun q h => by rw [← hAe]; exact Or.inr h
  have hS : va_S A s.heap s.heap [] := va_S.rf
  have hf11 := hts _ mw_223
  have hl := lv_entry ([.ref (ad 9), .int p0, .int p1]) (n := 3) (Nat.le_of_ble_eq_true rfl)
  rw [lg_entry_eq]
  generalize (lg_sl ([.ref (ad 9), .int p0, .int p1]) ++ List.replicate (3 - (lg_sl ([.ref (ad 9), .int p0, .int p1])).length) Slot.unset).toArray = ls at hl ⊢
  replace hl : lv_has ls 3 [(0, .ref (ad 9)), (1, .int p0), (2, .int p1)] := hl
  refine w_gen (fun Q hQ => ?_)
  refine lv_aload_n hx hb dX5_speedSign_0 rfl (lv_at hl 0 rfl) ?_
  refine va_get (D := D) (ci := 5) (v := .ref (ad 34)) (C := RX5) (T := TX5) (N := 1) hx hb hts iX5 hown hK hP 9 rfl rfl 0 (by decide) hf11 (fun _ h9 => h9) rfl dX5_speedSign_1 ?_
  refine lv_iload_n hx hb dX5_speedSign_4 rfl (lv_at hl 1 rfl) ?_
  refine lv_iload_n hx hb dX5_speedSign_5 rfl (lv_at hl 2 rfl) ?_
  obtain ⟨y1, hc2, h⟩ := gx_bind h
  refine cc_iS (As := [.int p0, .int p1]) (rest := [.ref (ad 34)]) ⟨hx, hb, hml, hown, hts⟩ (k_X5_slotOf l D cI cZ ad u p0 p1 hc2) (va_cwS 2 hts (gwS mw_268 mw_269 mw_28 mw_270) rfl rfl rfl (by decide +kernel) ⟨Nat.le_of_ble_eq_true rfl, Nat.le_of_ble_eq_true rfl⟩) hK hP hD hS hA hZ rfl hl.1 rfl (Nat.le_of_ble_eq_true rfl) dX5_speedSign_6 ⟨Nat.zero_le _, Nat.zero_le _⟩ (fun H locs hP hD hS => ?_)
  obtain ⟨b3, h⟩ := gx_in h
  refine va_iald (D := D) hx hb hK hP 34 0 rfl rfl b3 dX5_speedSign_9 ?_
  refine lv_bipush (v := 8) hx hb dX5_speedSign_10 (by decide) ?_
  refine lv_ishr hx hb dX5_speedSign_12 ?_
  cases h
  exact cc_ret hx hb hr rfl hQ hK hP hD hS rfl dX5_speedSign_13 hlocks

def rX9_proof : Room := { frames := 3, cells := 0, slots := 0, locals := 66 }
set_option maxHeartbeats 4000000 in
set_option maxRecDepth 100000 in
theorem k_X9_proof (l : Launch) (D : va_G) (cI cZ : ClassId) (ad : Nat → Nat) (u : GS) (p0 : Int32) (p1 : Int32) (p2 : Int32) {r : Int32} {w' : GS} (h : g_X9_proof u p0 p1 p2 = some (.inl r, w')) : MI l yX9_proof (wm yX9_proof cX9_proof 4 (some .int)) rX9_proof D [(cI, .int), (cZ, .boolean)] (wC cI cZ ad u) (wC cI cZ ad w') [.ref (ad 0), .int p0, .int p1, .int p2] r := by
  intro sz
  refine Met.ofW (cc := cX9_proof) (maxL := 4) (ret := (some .int)) (by decide) rfl ?_
  intro p e s m args below meth c s₁ B hml hv
  obtain ⟨rfl, hsz, hP, hK, hD0, hZ⟩ := hv
  have hx := B.exec
  have hb := B.bytes
  have hr := B.returns
  have hts : ∀ w ∈ Wall, w.before _ s = true := fun w hw => atoms_spec (ws := wm yX9_proof cX9_proof 4 (some .int)) B.pre w (List.mem_cons_of_mem _ hw)
  have hown : s.vm.findClass RX9 = some m.cls := findClass_of_methodNamed B.named
  have hlocks := B.notSynchronized
  subst hsz
  have hD := hD0.self (sz := s.heap.size)
  generalize hAe : va_A (wC cI cZ ad u) s.heap.size = A at hD hZ ⊢
  have hA : ∀ q : Nat, s.heap.size ≤ q → A q := fun q h => by rw [← hAe]; exact Or.inr h
  have hS : va_S A s.heap s.heap [] := va_S.rf
  have hf7 := hts _ mw_274
  have hf72 := hts _ mw_283
  have hl := lv_entry ([.ref (ad 0), .int p0, .int p1, .int p2]) (n := 4) (Nat.le_of_ble_eq_true rfl)
  rw [lg_entry_eq]
  generalize (lg_sl ([.ref (ad 0), .int p0, .int p1, .int p2]) ++ List.replicate (4 - (lg_sl ([.ref (ad 0), .int p0, .int p1, .int p2])).length) Slot.unset).toArray = ls at hl ⊢
  replace hl : lv_has ls 4 [(0, .ref (ad 0)), (1, .int p0), (2, .int p1), (3, .int p2)] := hl
  refine w_gen (fun Q hQ => ?_)
  refine lv_iload_n hx hb dX9_proof_0 rfl (lv_at hl 2 rfl) ?_
  obtain ⟨y1, u2, hc3, h⟩ := gx_xr h
  refine cc_vS (As := [.int p1]) (rest := []) ⟨hx, hb, hml, hown, hts⟩ (k_X9_needSection l D cI cZ ad u p1 hc3) (va_cwS 1 hts (gwS mw_312 mw_313 mw_19 mw_314) rfl rfl rfl (by decide +kernel) ⟨Nat.le_of_ble_eq_true rfl, Nat.le_of_ble_eq_true rfl⟩) hK hP hD hS hA hZ rfl hl.1 rfl (Nat.le_of_ble_eq_true rfl) dX9_proof_1 ⟨Nat.zero_le _, Nat.zero_le _⟩ (fun H locs hP hD hS => ?_)
  refine lv_iload_n hx hb dX9_proof_4 rfl (lv_at hl 1 rfl) ?_
  obtain ⟨j13_4, ej13_4, h⟩ := gx_let h
  have hj13_4 : ∀ (z0_13 : Int32) (H : Heap) (locs : List Loc) (ls : Array Slot), j13_4 z0_13 = some (.inl r, w') → va_P D vwCl (wC cI cZ ad u2) H → va_D A (wC cI cZ ad u2) → va_S A s.heap H locs → lv_has ls 4 [(0, .ref (ad 0)), (1, .int p0), (2, .int p1), (3, .int p2)] → W p l e rX9_proof s m ([.ref (ad 0), .int p0, .int p1, .int p2] : List Value).toArray below meth c H locs 0 0 Q (F0 m 13 ls [.int z0_13]) := by
    intro z0_13 H locs ls h hP hD hS hl
    subst ej13_4
    obtain ⟨y5, u6, hc7, h⟩ := gx_xr h
    refine cc_vS (As := [.int z0_13]) (rest := []) ⟨hx, hb, hml, hown, hts⟩ (k_X9_needArgument l D cI cZ ad u2 z0_13 hc7) (va_cwS 1 hts (gwS mw_432 mw_433 mw_19 mw_434) rfl rfl rfl (by decide +kernel) ⟨Nat.le_of_ble_eq_true rfl, Nat.le_of_ble_eq_true rfl⟩) hK hP hD hS hA hZ rfl hl.1 rfl (Nat.le_of_ble_eq_true rfl) dX9_proof_13 ⟨Nat.zero_le _, Nat.zero_le _⟩ (fun H locs hP hD hS => ?_)
    refine lv_iload_n hx hb dX9_proof_16 rfl (lv_at hl 3 rfl) ?_
    refine lv_iconst (v := 0) hx hb dX9_proof_17 (by decide) ?_
    refine lv_iconst (v := 4) hx hb dX9_proof_18 (by decide) ?_
    obtain ⟨y8, hc9, h⟩ := gx_bind h
    refine cc_iS (As := [.int p2, .int (0 : Int32), .int (4 : Int32)]) (rest := []) ⟨hx, hb, hml, hown, hts⟩ (k_X9_isWithin l D cI cZ ad u6 p2 (0 : Int32) (4 : Int32) hc9) (va_cwS 3 hts (gwS mw_315 mw_243 mw_19 mw_244) rfl rfl rfl (by decide +kernel) ⟨Nat.le_of_ble_eq_true rfl, Nat.le_of_ble_eq_true rfl⟩) hK hP hD hS hA hZ rfl hl.1 rfl (Nat.le_of_ble_eq_true rfl) dX9_proof_19 ⟨Nat.zero_le _, Nat.zero_le _⟩ (fun H locs hP hD hS => ?_)
    obtain ⟨y10, u11, hc12, h⟩ := gx_xr h
    refine cc_vS (As := [.int y8]) (rest := []) ⟨hx, hb, hml, hown, hts⟩ (k_X9_needArgument l D cI cZ ad u6 y8 hc12) (va_cwS 1 hts (gwS mw_432 mw_433 mw_19 mw_434) rfl rfl rfl (by decide +kernel) ⟨Nat.le_of_ble_eq_true rfl, Nat.le_of_ble_eq_true rfl⟩) hK hP hD hS hA hZ rfl hl.1 rfl (Nat.le_of_ble_eq_true rfl) dX9_proof_22 ⟨Nat.zero_le _, Nat.zero_le _⟩ (fun H locs hP hD hS => ?_)
    refine lv_iload_n hx hb dX9_proof_25 rfl (lv_at hl 1 rfl) ?_
    refine lv_aload_n hx hb dX9_proof_26 rfl (lv_at hl 0 rfl) ?_
    refine va_get (D := D) (ci := 9) (v := .int (c_minute u11)) (C := RX9) (T := TX9) (N := 10) hx hb hts iX9 hown hK hP 0 rfl rfl 0 (by decide) hf7 (fun _ h9 => h9) rfl dX9_proof_27 ?_
    obtain ⟨y13, hc14, h⟩ := gx_bind h
    refine cc_iS (As := [.int p0, .int (c_minute u11)]) (rest := []) ⟨hx, hb, hml, hown, hts⟩ (k_X5_isKept l D cI cZ ad u11 p0 (c_minute u11) hc14) (va_cwS 2 hts (gwS mw_451 mw_452 mw_28 mw_453) rfl rfl rfl (by decide +kernel) ⟨Nat.le_of_ble_eq_true rfl, Nat.le_of_ble_eq_true rfl⟩) hK hP hD hS hA hZ rfl hl.1 rfl (Nat.le_of_ble_eq_true rfl) dX9_proof_30 ⟨Nat.zero_le _, Nat.zero_le _⟩ (fun H locs hP hD hS => ?_)
    obtain ⟨y15, u16, hc17, h⟩ := gx_xr h
    refine cc_vS (As := [.int y13]) (rest := []) ⟨hx, hb, hml, hown, hts⟩ (k_X9_needState l D cI cZ ad u11 y13 hc17) (va_cwS 1 hts (gwS mw_455 mw_456 mw_19 mw_457) rfl rfl rfl (by decide +kernel) ⟨Nat.le_of_ble_eq_true rfl, Nat.le_of_ble_eq_true rfl⟩) hK hP hD hS hA hZ rfl hl.1 rfl (Nat.le_of_ble_eq_true rfl) dX9_proof_33 ⟨Nat.zero_le _, Nat.zero_le _⟩ (fun H locs hP hD hS => ?_)
    refine lv_iload_n hx hb dX9_proof_36 rfl (lv_at hl 3 rfl) ?_
    refine lv_if_ne (tgt := 50) hx hb dX9_proof_37 (by decide) (fun c18 => ?_) (fun c18 => ?_)
    · replace h := gx_f c18 h
      refine lv_aload_n hx hb dX9_proof_50 rfl (lv_at hl 0 rfl) ?_
      refine va_get (D := D) (ci := 9) (v := .ref (ad 9)) (C := RX9) (T := TX9) (N := 10) hx hb hts iX9 hown hK hP 0 rfl rfl 9 (by decide) hf72 (fun _ h9 => h9) rfl dX9_proof_51 ?_
      refine lv_iload_n hx hb dX9_proof_54 rfl (lv_at hl 1 rfl) ?_
      refine lv_iload_n hx hb dX9_proof_55 rfl (lv_at hl 2 rfl) ?_
      refine lv_iload_n hx hb dX9_proof_56 rfl (lv_at hl 3 rfl) ?_
      refine lv_iconst (v := 1) hx hb dX9_proof_57 (by decide) ?_
      refine lv_isub hx hb dX9_proof_58 ?_
      obtain ⟨y19, hc20, h⟩ := gx_bind h
      refine cc_iV (As := [.int p0, .int p1, .int (p2 - (1 : Int32))]) (rest := []) ⟨hx, hb, hml, hown, hts⟩ (k_X5_laneSign l D cI cZ ad u16 p0 p1 (p2 - (1 : Int32)) hc20) (cwV 3 hts (gwV mw_478 mw_479 mw_480 mw_28 mw_481) rfl rfl rfl (by decide +kernel) ⟨Nat.le_of_ble_eq_true rfl, Nat.le_of_ble_eq_true rfl⟩) hK hP hD hS hA hZ (ci := 5) (q0 := 9) rfl rfl rfl hl.1 rfl (Nat.le_of_ble_eq_true rfl) dX9_proof_59 ⟨Nat.zero_le _, Nat.zero_le _⟩ (fun H locs hP hD hS => ?_)
      cases h
      exact cc_ret hx hb hr rfl hQ hK hP hD hS rfl dX9_proof_62 hlocks
    · replace h := gx_t c18 h
      refine lv_aload_n hx hb dX9_proof_40 rfl (lv_at hl 0 rfl) ?_
      refine va_get (D := D) (ci := 9) (v := .ref (ad 9)) (C := RX9) (T := TX9) (N := 10) hx hb hts iX9 hown hK hP 0 rfl rfl 9 (by decide) hf72 (fun _ h9 => h9) rfl dX9_proof_41 ?_
      refine lv_iload_n hx hb dX9_proof_44 rfl (lv_at hl 1 rfl) ?_
      refine lv_iload_n hx hb dX9_proof_45 rfl (lv_at hl 2 rfl) ?_
      obtain ⟨y21, hc22, h⟩ := gx_bind h
      refine cc_iV (As := [.int p0, .int p1]) (rest := []) ⟨hx, hb, hml, hown, hts⟩ (k_X5_speedSign l D cI cZ ad u16 p0 p1 hc22) (cwV 2 hts (gwV mw_474 mw_475 mw_476 mw_28 mw_477) rfl rfl rfl (by decide +kernel) ⟨Nat.le_of_ble_eq_true rfl, Nat.le_of_ble_eq_true rfl⟩) hK hP hD hS hA hZ (ci := 5) (q0 := 9) rfl rfl rfl hl.1 rfl (Nat.le_of_ble_eq_true rfl) dX9_proof_46 ⟨Nat.zero_le _, Nat.zero_le _⟩ (fun H locs hP hD hS => ?_)
      cases h
      exact cc_ret hx hb hr rfl hQ hK hP hD hS rfl dX9_proof_49 hlocks
  refine lv_if_lt (tgt := 12) hx hb dX9_proof_5 (by decide) (fun c23 => ?_) (fun c23 => ?_)
  · replace h := gx_t c23 h
    refine lv_iconst (v := 0) hx hb dX9_proof_12 (by decide) ?_
    exact hj13_4 (0 : Int32) _ _ _ h hP hD hS (lv_sub hl [0, 1, 2, 3] rfl)
  · replace h := gx_f c23 h
    refine lv_iconst (v := 1) hx hb dX9_proof_8 (by decide) ?_
    refine lv_goto (tgt := 13) hx hb dX9_proof_9 (by decide) ?_
    exact hj13_4 (1 : Int32) _ _ _ h hP hD hS (lv_sub hl [0, 1, 2, 3] rfl)

def rX9_section : Room := { frames := 4, cells := 0, slots := 0, locals := 94 }
set_option maxHeartbeats 4000000 in
set_option maxRecDepth 100000 in
theorem k_X9_section (l : Launch) (D : va_G) (cI cZ : ClassId) (ad : Nat → Nat) (u : GS) (p0 : Int32) (p1 : Int32) {r : Int32} {w' : GS} (h : g_X9_section u p0 p1 = some (.inl r, w')) : MI l yX9_section (wm yX9_section cX9_section 3 (some .int)) rX9_section D [(cI, .int), (cZ, .boolean)] (wC cI cZ ad u) (wC cI cZ ad w') [.ref (ad 0), .int p0, .int p1] r := by
  intro sz
  refine Met.ofW (cc := cX9_section) (maxL := 3) (ret := (some .int)) (by decide) rfl ?_
  intro p e s m args below meth c s₁ B hml hv
  obtain ⟨rfl, hsz, hP, hK, hD0, hZ⟩ := hv
  have hx := B.exec
  have hb := B.bytes
  have hr := B.returns
  have hts : ∀ w ∈ Wall, w.before _ s = true := fun w hw => atoms_spec (ws := wm yX9_section cX9_section 3 (some .int)) B.pre w (List.mem_cons_of_mem _ hw)
  have hown : s.vm.findClass RX9 = some m.cls := findClass_of_methodNamed B.named
  have hlocks := B.notSynchronized
  subst hsz
  have hD := hD0.self (sz := s.heap.size)
  generalize hAe : va_A (wC cI cZ ad u) s.heap.size = A at hD hZ ⊢
  have hA : ∀ q : Nat, s.heap.size ≤ q → A q := fun q h => by rw [← hAe]; exact Or.inr h
  have hS : va_S A s.heap s.heap [] := va_S.rf
  have hf16 := hts _ mw_275
  have hf23 := hts _ mw_276
  have hf30 := hts _ mw_277
  have hf80 := hts _ mw_105
  have hf145 := hts _ mw_55
  have hf149 := hts _ mw_88
  have hl := lv_entry ([.ref (ad 0), .int p0, .int p1]) (n := 3) (Nat.le_of_ble_eq_true rfl)
  rw [lg_entry_eq]
  generalize (lg_sl ([.ref (ad 0), .int p0, .int p1]) ++ List.replicate (3 - (lg_sl ([.ref (ad 0), .int p0, .int p1])).length) Slot.unset).toArray = ls at hl ⊢
  replace hl : lv_has ls 3 [(0, .ref (ad 0)), (1, .int p0), (2, .int p1)] := hl
  refine w_gen (fun Q hQ => ?_)
  refine lv_iload_n hx hb dX9_section_0 rfl (lv_at hl 1 rfl) ?_
  obtain ⟨y1, u2, hc3, h⟩ := gx_xr h
  refine cc_vS (As := [.int p0]) (rest := []) ⟨hx, hb, hml, hown, hts⟩ (k_X9_needSection l D cI cZ ad u p0 hc3) (va_cwS 1 hts (gwS mw_312 mw_313 mw_19 mw_314) rfl rfl rfl (by decide +kernel) ⟨Nat.le_of_ble_eq_true rfl, Nat.le_of_ble_eq_true rfl⟩) hK hP hD hS hA hZ rfl hl.1 rfl (Nat.le_of_ble_eq_true rfl) dX9_section_1 ⟨Nat.zero_le _, Nat.zero_le _⟩ (fun H locs hP hD hS => ?_)
  refine lv_iload_n hx hb dX9_section_4 rfl (lv_at hl 2 rfl) ?_
  refine lv_iconst (v := 0) hx hb dX9_section_5 (by decide) ?_
  refine lv_iconst (v := 5) hx hb dX9_section_6 (by decide) ?_
  obtain ⟨y4, hc5, h⟩ := gx_bind h
  refine cc_iS (As := [.int p1, .int (0 : Int32), .int (5 : Int32)]) (rest := []) ⟨hx, hb, hml, hown, hts⟩ (k_X9_isWithin l D cI cZ ad u2 p1 (0 : Int32) (5 : Int32) hc5) (va_cwS 3 hts (gwS mw_315 mw_243 mw_19 mw_244) rfl rfl rfl (by decide +kernel) ⟨Nat.le_of_ble_eq_true rfl, Nat.le_of_ble_eq_true rfl⟩) hK hP hD hS hA hZ rfl hl.1 rfl (Nat.le_of_ble_eq_true rfl) dX9_section_7 ⟨Nat.zero_le _, Nat.zero_le _⟩ (fun H locs hP hD hS => ?_)
  obtain ⟨y6, u7, hc8, h⟩ := gx_xr h
  refine cc_vS (As := [.int y4]) (rest := []) ⟨hx, hb, hml, hown, hts⟩ (k_X9_needArgument l D cI cZ ad u2 y4 hc8) (va_cwS 1 hts (gwS mw_432 mw_433 mw_19 mw_434) rfl rfl rfl (by decide +kernel) ⟨Nat.le_of_ble_eq_true rfl, Nat.le_of_ble_eq_true rfl⟩) hK hP hD hS hA hZ rfl hl.1 rfl (Nat.le_of_ble_eq_true rfl) dX9_section_10 ⟨Nat.zero_le _, Nat.zero_le _⟩ (fun H locs hP hD hS => ?_)
  refine lv_iload_n hx hb dX9_section_13 rfl (lv_at hl 2 rfl) ?_
  by_cases c14_0 : p1 = 0
  · replace h := gx_t c14_0 h
    refine lv_tableIn (tgt := 48) (off := 34) hx hb dX9_section_14 (by rw [c14_0]; decide) (by rw [c14_0]; decide) (by rw [c14_0]; decide) (by decide) ?_
    refine lv_aload_n hx hb dX9_section_48 rfl (lv_at hl 0 rfl) ?_
    refine va_get (D := D) (ci := 9) (v := .ref (ad 1)) (C := RX9) (T := TX9) (N := 10) hx hb hts iX9 hown hK hP 0 rfl rfl 1 (by decide) hf16 (fun _ h9 => h9) rfl dX9_section_49 ?_
    refine lv_iload_n hx hb dX9_section_52 rfl (lv_at hl 1 rfl) ?_
    obtain ⟨y9, hc10, h⟩ := gx_bind h
    refine cc_iV (As := [.int p0]) (rest := []) ⟨hx, hb, hml, hown, hts⟩ (k_X8_speedAt l D cI cZ ad u7 p0 hc10) (cwV 1 hts (gwV mw_629 mw_414 mw_415 mw_20 mw_416) rfl rfl rfl (by decide +kernel) ⟨Nat.le_of_ble_eq_true rfl, Nat.le_of_ble_eq_true rfl⟩) hK hP hD hS hA hZ (ci := 8) (q0 := 1) rfl rfl rfl hl.1 rfl (Nat.le_of_ble_eq_true rfl) dX9_section_53 ⟨Nat.zero_le _, Nat.zero_le _⟩ (fun H locs hP hD hS => ?_)
    cases h
    exact cc_ret hx hb hr rfl hQ hK hP hD hS rfl dX9_section_56 hlocks
  · replace h := gx_f c14_0 h
    by_cases c14_1 : p1 = 1
    · replace h := gx_t c14_1 h
      refine lv_tableIn (tgt := 57) (off := 43) hx hb dX9_section_14 (by rw [c14_1]; decide) (by rw [c14_1]; decide) (by rw [c14_1]; decide) (by decide) ?_
      refine lv_aload_n hx hb dX9_section_57 rfl (lv_at hl 0 rfl) ?_
      refine va_get (D := D) (ci := 9) (v := .ref (ad 2)) (C := RX9) (T := TX9) (N := 10) hx hb hts iX9 hown hK hP 0 rfl rfl 2 (by decide) hf23 (fun _ h9 => h9) rfl dX9_section_58 ?_
      refine lv_iload_n hx hb dX9_section_61 rfl (lv_at hl 1 rfl) ?_
      refine lv_aload_n hx hb dX9_section_62 rfl (lv_at hl 0 rfl) ?_
      refine va_get (D := D) (ci := 9) (v := .ref (ad 1)) (C := RX9) (T := TX9) (N := 10) hx hb hts iX9 hown hK hP 0 rfl rfl 1 (by decide) hf16 (fun _ h9 => h9) rfl dX9_section_63 ?_
      obtain ⟨y11, hc12, h⟩ := gx_bind h
      refine cc_iV (As := [.int p0, .ref (ad 1)]) (rest := []) ⟨hx, hb, hml, hown, hts⟩ (k_X1_beliefAt l D cI cZ ad u7 p0 hc12) (cwV 2 hts (gwV mw_408 mw_409 mw_410 mw_21 mw_411) rfl rfl rfl (by decide +kernel) ⟨Nat.le_of_ble_eq_true rfl, Nat.le_of_ble_eq_true rfl⟩) hK hP hD hS hA hZ (ci := 1) (q0 := 2) rfl rfl rfl hl.1 rfl (Nat.le_of_ble_eq_true rfl) dX9_section_66 ⟨Nat.zero_le _, Nat.zero_le _⟩ (fun H locs hP hD hS => ?_)
      cases h
      exact cc_ret hx hb hr rfl hQ hK hP hD hS rfl dX9_section_69 hlocks
    · replace h := gx_f c14_1 h
      by_cases c14_2 : p1 = 2
      · replace h := gx_t c14_2 h
        refine lv_tableIn (tgt := 70) (off := 56) hx hb dX9_section_14 (by rw [c14_2]; decide) (by rw [c14_2]; decide) (by rw [c14_2]; decide) (by decide) ?_
        refine lv_aload_n hx hb dX9_section_70 rfl (lv_at hl 0 rfl) ?_
        refine va_get (D := D) (ci := 9) (v := .ref (ad 2)) (C := RX9) (T := TX9) (N := 10) hx hb hts iX9 hown hK hP 0 rfl rfl 2 (by decide) hf23 (fun _ h9 => h9) rfl dX9_section_71 ?_
        refine lv_iload_n hx hb dX9_section_74 rfl (lv_at hl 1 rfl) ?_
        refine lv_aload_n hx hb dX9_section_75 rfl (lv_at hl 0 rfl) ?_
        refine va_get (D := D) (ci := 9) (v := .ref (ad 1)) (C := RX9) (T := TX9) (N := 10) hx hb hts iX9 hown hK hP 0 rfl rfl 1 (by decide) hf16 (fun _ h9 => h9) rfl dX9_section_76 ?_
        obtain ⟨y13, hc14, h⟩ := gx_bind h
        refine cc_iV (As := [.int p0, .ref (ad 1)]) (rest := []) ⟨hx, hb, hml, hown, hts⟩ (k_X1_guessAt l D cI cZ ad u7 p0 hc14) (cwV 2 hts (gwV mw_630 mw_422 mw_423 mw_21 mw_424) rfl rfl rfl (by decide +kernel) ⟨Nat.le_of_ble_eq_true rfl, Nat.le_of_ble_eq_true rfl⟩) hK hP hD hS hA hZ (ci := 1) (q0 := 2) rfl rfl rfl hl.1 rfl (Nat.le_of_ble_eq_true rfl) dX9_section_79 ⟨Nat.zero_le _, Nat.zero_le _⟩ (fun H locs hP hD hS => ?_)
        cases h
        exact cc_ret hx hb hr rfl hQ hK hP hD hS rfl dX9_section_82 hlocks
      · replace h := gx_f c14_2 h
        by_cases c14_3 : p1 = 3
        · replace h := gx_t c14_3 h
          refine lv_tableIn (tgt := 83) (off := 69) hx hb dX9_section_14 (by rw [c14_3]; decide) (by rw [c14_3]; decide) (by rw [c14_3]; decide) (by decide) ?_
          refine lv_aload_n hx hb dX9_section_83 rfl (lv_at hl 0 rfl) ?_
          refine va_get (D := D) (ci := 9) (v := .ref (ad 3)) (C := RX9) (T := TX9) (N := 10) hx hb hts iX9 hown hK hP 0 rfl rfl 3 (by decide) hf30 (fun _ h9 => h9) rfl dX9_section_84 ?_
          refine va_get (D := D) (ci := 7) (v := .ref (ad 16)) (C := RX7) (T := TX7) (N := 4) hx hb hts iX7 hown hK hP 3 rfl rfl 1 (by decide) hf80 (fun _ h9 => h9) rfl dX9_section_87 ?_
          refine lv_iload_n hx hb dX9_section_90 rfl (lv_at hl 1 rfl) ?_
          obtain ⟨b15, h⟩ := gx_in h
          refine va_iald (D := D) hx hb hK hP 16 0 rfl rfl b15 dX9_section_91 ?_
          cases h
          exact cc_ret hx hb hr rfl hQ hK hP hD hS rfl dX9_section_92 hlocks
        · replace h := gx_f c14_3 h
          by_cases c14_4 : p1 = 4
          · replace h := gx_t c14_4 h
            refine lv_tableIn (tgt := 93) (off := 79) hx hb dX9_section_14 (by rw [c14_4]; decide) (by rw [c14_4]; decide) (by rw [c14_4]; decide) (by decide) ?_
            refine lv_aload_n hx hb dX9_section_93 rfl (lv_at hl 0 rfl) ?_
            refine va_get (D := D) (ci := 9) (v := .ref (ad 1)) (C := RX9) (T := TX9) (N := 10) hx hb hts iX9 hown hK hP 0 rfl rfl 1 (by decide) hf16 (fun _ h9 => h9) rfl dX9_section_94 ?_
            refine va_get (D := D) (ci := 8) (v := .ref (ad 12)) (C := RX8) (T := TX8) (N := 7) hx hb hts iX8 hown hK hP 1 rfl rfl 2 (by decide) hf145 (fun _ h9 => h9) rfl dX9_section_97 ?_
            refine lv_iload_n hx hb dX9_section_100 rfl (lv_at hl 1 rfl) ?_
            obtain ⟨b16, h⟩ := gx_in h
            refine va_zald (D := D) hx hb hK hP 12 1 rfl rfl b16 dX9_section_101 ?_
            refine lv_if_eq (tgt := 109) hx hb dX9_section_102 (by decide) (fun c17 => ?_) (fun c17 => ?_)
            · replace h := gx_t c17 h
              refine lv_iconst (v := 0) hx hb dX9_section_109 (by decide) ?_
              cases h
              exact cc_ret hx hb hr rfl hQ hK hP hD hS rfl dX9_section_110 hlocks
            · replace h := gx_f c17 h
              refine lv_iconst (v := 1) hx hb dX9_section_105 (by decide) ?_
              refine lv_goto (tgt := 110) hx hb dX9_section_106 (by decide) ?_
              cases h
              exact cc_ret hx hb hr rfl hQ hK hP hD hS rfl dX9_section_110 hlocks
          · replace h := gx_f c14_4 h
            have t14_0 := gx_sw0 (n := 0) rfl c14_0
            have t14_1 := gx_sw0 (n := 1) rfl c14_1
            have t14_2 := gx_sw0 (n := 2) rfl c14_2
            have t14_3 := gx_sw0 (n := 3) rfl c14_3
            have t14_4 := gx_sw0 (n := 4) rfl c14_4
            refine lv_tableOut (tgt := 111) hx hb dX9_section_14 (by omega) (by decide) ?_
            refine lv_aload_n hx hb dX9_section_111 rfl (lv_at hl 0 rfl) ?_
            refine va_get (D := D) (ci := 9) (v := .ref (ad 2)) (C := RX9) (T := TX9) (N := 10) hx hb hts iX9 hown hK hP 0 rfl rfl 2 (by decide) hf23 (fun _ h9 => h9) rfl dX9_section_112 ?_
            refine va_get (D := D) (ci := 1) (v := .ref (ad 13)) (C := RX1) (T := TX1) (N := 2) hx hb hts iX1 hown hK hP 2 rfl rfl 0 (by decide) hf149 (fun _ h9 => h9) rfl dX9_section_115 ?_
            refine lv_iload_n hx hb dX9_section_118 rfl (lv_at hl 1 rfl) ?_
            obtain ⟨b18, h⟩ := gx_in h
            refine va_iald (D := D) hx hb hK hP 13 0 rfl rfl b18 dX9_section_119 ?_
            cases h
            exact cc_ret hx hb hr rfl hQ hK hP hD hS rfl dX9_section_120 hlocks

def rX9_holds : Room := { frames := 3, cells := 0, slots := 0, locals := 63 }
set_option maxHeartbeats 4000000 in
set_option maxRecDepth 100000 in
theorem k_X9_holds (l : Launch) (D : va_G) (cI cZ : ClassId) (ad : Nat → Nat) (u : GS) (p0 : Int32) (p1 : Int32) {r : Int32} {w' : GS} (h : g_X9_holds u p0 p1 = some (.inl r, w')) : MI l yX9_holds (wm yX9_holds cX9_holds 3 (some .int)) rX9_holds D [(cI, .int), (cZ, .boolean)] (wC cI cZ ad u) (wC cI cZ ad w') [.ref (ad 0), .int p0, .int p1] r := by
  intro sz
  refine Met.ofW (cc := cX9_holds) (maxL := 3) (ret := (some .int)) (by decide) rfl ?_
  intro p e s m args below meth c s₁ B hml hv
  obtain ⟨rfl, hsz, hP, hK, hD0, hZ⟩ := hv
  have hx := B.exec
  have hb := B.bytes
  have hr := B.returns
  have hts : ∀ w ∈ Wall, w.before _ s = true := fun w hw => atoms_spec (ws := wm yX9_holds cX9_holds 3 (some .int)) B.pre w (List.mem_cons_of_mem _ hw)
  have hown : s.vm.findClass RX9 = some m.cls := findClass_of_methodNamed B.named
  have hlocks := B.notSynchronized
  subst hsz
  have hD := hD0.self (sz := s.heap.size)
  generalize hAe : va_A (wC cI cZ ad u) s.heap.size = A at hD hZ ⊢
  have hA : ∀ q : Nat, s.heap.size ≤ q → A q := fun q h => by rw [← hAe]; exact Or.inr h
  have hS : va_S A s.heap s.heap [] := va_S.rf
  have hf16 := hts _ mw_275
  have hf110 := hts _ mw_51
  have hl := lv_entry ([.ref (ad 0), .int p0, .int p1]) (n := 3) (Nat.le_of_ble_eq_true rfl)
  rw [lg_entry_eq]
  generalize (lg_sl ([.ref (ad 0), .int p0, .int p1]) ++ List.replicate (3 - (lg_sl ([.ref (ad 0), .int p0, .int p1])).length) Slot.unset).toArray = ls at hl ⊢
  replace hl : lv_has ls 3 [(0, .ref (ad 0)), (1, .int p0), (2, .int p1)] := hl
  refine w_gen (fun Q hQ => ?_)
  refine lv_iload_n hx hb dX9_holds_0 rfl (lv_at hl 1 rfl) ?_
  refine lv_iload_n hx hb dX9_holds_1 rfl (lv_at hl 2 rfl) ?_
  obtain ⟨y1, u2, hc3, h⟩ := gx_xr h
  refine cc_vS (As := [.int p0, .int p1]) (rest := []) ⟨hx, hb, hml, hown, hts⟩ (k_X9_needPlace l D cI cZ ad u p0 p1 hc3) (va_cwS 2 hts (gwS mw_309 mw_310 mw_19 mw_311) rfl rfl rfl (by decide +kernel) ⟨Nat.le_of_ble_eq_true rfl, Nat.le_of_ble_eq_true rfl⟩) hK hP hD hS hA hZ rfl hl.1 rfl (Nat.le_of_ble_eq_true rfl) dX9_holds_2 ⟨Nat.zero_le _, Nat.zero_le _⟩ (fun H locs hP hD hS => ?_)
  refine lv_aload_n hx hb dX9_holds_5 rfl (lv_at hl 0 rfl) ?_
  refine va_get (D := D) (ci := 9) (v := .ref (ad 1)) (C := RX9) (T := TX9) (N := 10) hx hb hts iX9 hown hK hP 0 rfl rfl 1 (by decide) hf16 (fun _ h9 => h9) rfl dX9_holds_6 ?_
  refine va_get (D := D) (ci := 8) (v := .ref (ad 10)) (C := RX8) (T := TX8) (N := 7) hx hb hts iX8 hown hK hP 1 rfl rfl 0 (by decide) hf110 (fun _ h9 => h9) rfl dX9_holds_9 ?_
  refine lv_iload_n hx hb dX9_holds_12 rfl (lv_at hl 1 rfl) ?_
  refine lv_iload_n hx hb dX9_holds_13 rfl (lv_at hl 2 rfl) ?_
  obtain ⟨y4, hc5, h⟩ := gx_bind h
  refine cc_iS (As := [.int p0, .int p1]) (rest := [.ref (ad 10)]) ⟨hx, hb, hml, hown, hts⟩ (k_X9_placeOf l D cI cZ ad u2 p0 p1 hc5) (va_cwS 2 hts (gwS mw_391 mw_236 mw_19 mw_237) rfl rfl rfl (by decide +kernel) ⟨Nat.le_of_ble_eq_true rfl, Nat.le_of_ble_eq_true rfl⟩) hK hP hD hS hA hZ rfl hl.1 rfl (Nat.le_of_ble_eq_true rfl) dX9_holds_14 ⟨Nat.zero_le _, Nat.zero_le _⟩ (fun H locs hP hD hS => ?_)
  obtain ⟨b6, h⟩ := gx_in h
  refine va_iald (D := D) hx hb hK hP 10 0 rfl rfl b6 dX9_holds_17 ?_
  cases h
  exact cc_ret hx hb hr rfl hQ hK hP hD hS rfl dX9_holds_18 hlocks

def rX8_countOnRoad : Room := { frames := 0, cells := 0, slots := 0, locals := 0 }
set_option maxHeartbeats 4000000 in
set_option maxRecDepth 100000 in
theorem k_X8_countOnRoad (l : Launch) (D : va_G) (cI cZ : ClassId) (ad : Nat → Nat) (u : GS) {r : Int32} (h : g_X8_countOnRoad u = some r) : MI l yX8_countOnRoad (wm yX8_countOnRoad cX8_countOnRoad 3 (some .int)) rX8_countOnRoad D [(cI, .int), (cZ, .boolean)] (wC cI cZ ad u) (wC cI cZ ad u) [.ref (ad 1)] r := by
  intro sz
  refine Met.ofW (cc := cX8_countOnRoad) (maxL := 3) (ret := (some .int)) (by decide) rfl ?_
  intro p e s m args below meth c s₁ B hml hv
  obtain ⟨rfl, hsz, hP, hK, hD0, hZ⟩ := hv
  have hx := B.exec
  have hb := B.bytes
  have hr := B.returns
  have hts : ∀ w ∈ Wall, w.before _ s = true := fun w hw => atoms_spec (ws := wm yX8_countOnRoad cX8_countOnRoad 3 (some .int)) B.pre w (List.mem_cons_of_mem _ hw)
  have hown : s.vm.findClass RX8 = some m.cls := findClass_of_methodNamed B.named
  have hlocks := B.notSynchronized
  subst hsz
  have hD := hD0.self (sz := s.heap.size)
  generalize hAe : va_A (wC cI cZ ad u) s.heap.size = A at hD hZ ⊢
  have hA : ∀ q : Nat, s.heap.size ≤ q → A q := fun q h => by rw [← hAe]; exact Or.inr h
  have hS : va_S A s.heap s.heap [] := va_S.rf
  have hf9 := hts _ mw_50
  have hl := lv_entry ([.ref (ad 1)]) (n := 3) (Nat.le_of_ble_eq_true rfl)
  rw [lg_entry_eq]
  generalize (lg_sl ([.ref (ad 1)]) ++ List.replicate (3 - (lg_sl ([.ref (ad 1)])).length) Slot.unset).toArray = ls at hl ⊢
  replace hl : lv_has ls 3 [(0, .ref (ad 1))] := hl
  refine w_gen (fun Q hQ => ?_)
  refine lv_iconst (v := 0) hx hb dX8_countOnRoad_0 (by decide) ?_
  refine lv_istore_n (lv' := [(1, .int (0 : Int32)), (0, .ref (ad 1))]) hx hb dX8_countOnRoad_1 rfl hl (by decide) rfl (fun ls hl => ?_)
  refine lv_iconst (v := 0) hx hb dX8_countOnRoad_2 (by decide) ?_
  refine lv_istore_n (lv' := [(2, .int (0 : Int32)), (1, .int (0 : Int32)), (0, .ref (ad 1))]) hx hb dX8_countOnRoad_3 rfl hl (by decide) rfl (fun ls hl => ?_)
  have hL4 : ∀ (k : Int32 → Option (Int32)) (hk : ∀ (x1_4 : Int32) (H : Heap) (locs : List Loc) (ls : Array Slot), k x1_4 = some r → va_P D vwCl (wC cI cZ ad u) H → va_D A (wC cI cZ ad u) → va_S A s.heap H locs → lv_has ls 3 [(1, .int x1_4)] → W p l e rX8_countOnRoad s m ([.ref (ad 1)] : List Value).toArray below meth c H locs 0 0 Q (F0 m 25 ls [])) (n : Nat) (x1_4 : Int32) (x2_4 : Int32) (H : Heap) (locs : List Loc) (ls : Array Slot), lp_X8_countOnRoad_4 u k n x1_4 x2_4 = some r → va_P D vwCl (wC cI cZ ad u) H → va_D A (wC cI cZ ad u) → va_S A s.heap H locs → lv_has ls 3 [(0, .ref (ad 1)), (1, .int x1_4), (2, .int x2_4)] → W p l e rX8_countOnRoad s m ([.ref (ad 1)] : List Value).toArray below meth c H locs 0 0 Q (F0 m 4 ls []) := by
    intro k hk n
    induction n with
    | zero =>
      intro x1_4 x2_4 H locs ls h
      rw [lp_X8_countOnRoad_4] at h
      cases h
    | succ n ih =>
      intro x1_4 x2_4 H locs ls h hP hD hS hl
      rw [lp_X8_countOnRoad_4] at h
      refine lv_iload_n hx hb dX8_countOnRoad_4 rfl (lv_at hl 2 rfl) ?_
      refine lv_bipush (v := 48) hx hb dX8_countOnRoad_5 (by decide) ?_
      refine lv_icmp_ge (tgt := 25) hx hb dX8_countOnRoad_7 (by decide) (fun c1 => ?_) (fun c1 => ?_)
      · replace h := gx_t c1 h
        exact hk x1_4 _ _ _ h hP hD hS (lv_sub hl [1] rfl)
      · replace h := gx_f c1 h
        refine lv_iload_n hx hb dX8_countOnRoad_10 rfl (lv_at hl 1 rfl) ?_
        refine lv_aload_n hx hb dX8_countOnRoad_11 rfl (lv_at hl 0 rfl) ?_
        refine va_get (D := D) (ci := 8) (v := .ref (ad 10)) (C := RX8) (T := TX8) (N := 7) hx hb hts iX8 hown hK hP 1 rfl rfl 0 (by decide) hf9 (fun _ h9 => h9) rfl dX8_countOnRoad_12 ?_
        refine lv_iload_n hx hb dX8_countOnRoad_15 rfl (lv_at hl 2 rfl) ?_
        obtain ⟨b2, h⟩ := gx_in h
        refine va_iald (D := D) hx hb hK hP 10 0 rfl rfl b2 dX8_countOnRoad_16 ?_
        refine lv_iadd hx hb dX8_countOnRoad_17 ?_
        obtain ⟨v3, ev3, h⟩ := gx_let h
        refine lv_topn ev3 ?_
        refine lv_istore_n (lv' := [(1, .int v3), (0, .ref (ad 1)), (2, .int x2_4)]) hx hb dX8_countOnRoad_18 rfl hl (by decide) rfl (fun ls hl => ?_)
        obtain ⟨v4, ev4, h⟩ := gx_let h
        refine lv_iinc (v := v4) (lv' := [(2, .int v4), (1, .int v3), (0, .ref (ad 1))]) hx hb dX8_countOnRoad_19 hl (k := 2) rfl (by rw [← ev4]; rfl) (by decide) rfl (fun ls hl => ?_)
        refine lv_goto (tgt := 4) hx hb dX8_countOnRoad_22 (by decide) ?_
        exact ih v3 v4 _ _ _ h hP hD hS (lv_sub hl [2, 1, 0] rfl)
  refine hL4 _ (fun x1_4 H locs ls h hP hD hS hl => ?_) FU (0 : Int32) (0 : Int32) _ _ _ h hP hD hS (lv_sub hl [2, 1, 0] rfl)
  refine lv_iload_n hx hb dX8_countOnRoad_25 rfl (lv_at hl 0 rfl) ?_
  cases h
  exact cc_ret hx hb hr rfl hQ hK hP hD hS rfl dX8_countOnRoad_26 hlocks

def rX9_vehicles : Room := { frames := 1, cells := 0, slots := 0, locals := 22 }
set_option maxHeartbeats 4000000 in
set_option maxRecDepth 100000 in
theorem k_X9_vehicles (l : Launch) (D : va_G) (cI cZ : ClassId) (ad : Nat → Nat) (u : GS) (p0 : Int32) {r : Int32} {w' : GS} (h : g_X9_vehicles u p0 = some (.inl r, w')) : MI l yX9_vehicles (wm yX9_vehicles cX9_vehicles 2 (some .int)) rX9_vehicles D [(cI, .int), (cZ, .boolean)] (wC cI cZ ad u) (wC cI cZ ad w') [.ref (ad 0), .int p0] r := by
  intro sz
  refine Met.ofW (cc := cX9_vehicles) (maxL := 2) (ret := (some .int)) (by decide) rfl ?_
  intro p e s m args below meth c s₁ B hml hv
  obtain ⟨rfl, hsz, hP, hK, hD0, hZ⟩ := hv
  have hx := B.exec
  have hb := B.bytes
  have hr := B.returns
  have hts : ∀ w ∈ Wall, w.before _ s = true := fun w hw => atoms_spec (ws := wm yX9_vehicles cX9_vehicles 2 (some .int)) B.pre w (List.mem_cons_of_mem _ hw)
  have hown : s.vm.findClass RX9 = some m.cls := findClass_of_methodNamed B.named
  have hlocks := B.notSynchronized
  subst hsz
  have hD := hD0.self (sz := s.heap.size)
  generalize hAe : va_A (wC cI cZ ad u) s.heap.size = A at hD hZ ⊢
  have hA : ∀ q : Nat, s.heap.size ≤ q → A q := fun q h => by rw [← hAe]; exact Or.inr h
  have hS : va_S A s.heap s.heap [] := va_S.rf
  have hf16 := hts _ mw_275
  have hf117 := hts _ mw_59
  have hf124 := hts _ mw_61
  have hf127 := hts _ mw_63
  have hl := lv_entry ([.ref (ad 0), .int p0]) (n := 2) (Nat.le_of_ble_eq_true rfl)
  rw [lg_entry_eq]
  generalize (lg_sl ([.ref (ad 0), .int p0]) ++ List.replicate (2 - (lg_sl ([.ref (ad 0), .int p0])).length) Slot.unset).toArray = ls at hl ⊢
  replace hl : lv_has ls 2 [(0, .ref (ad 0)), (1, .int p0)] := hl
  refine w_gen (fun Q hQ => ?_)
  refine lv_iload_n hx hb dX9_vehicles_0 rfl (lv_at hl 1 rfl) ?_
  refine lv_iconst (v := 0) hx hb dX9_vehicles_1 (by decide) ?_
  refine lv_iconst (v := 3) hx hb dX9_vehicles_2 (by decide) ?_
  obtain ⟨y1, hc2, h⟩ := gx_bind h
  refine cc_iS (As := [.int p0, .int (0 : Int32), .int (3 : Int32)]) (rest := []) ⟨hx, hb, hml, hown, hts⟩ (k_X9_isWithin l D cI cZ ad u p0 (0 : Int32) (3 : Int32) hc2) (va_cwS 3 hts (gwS mw_315 mw_243 mw_19 mw_244) rfl rfl rfl (by decide +kernel) ⟨Nat.le_of_ble_eq_true rfl, Nat.le_of_ble_eq_true rfl⟩) hK hP hD hS hA hZ rfl hl.1 rfl (Nat.le_of_ble_eq_true rfl) dX9_vehicles_3 ⟨Nat.zero_le _, Nat.zero_le _⟩ (fun H locs hP hD hS => ?_)
  obtain ⟨y3, u4, hc5, h⟩ := gx_xr h
  refine cc_vS (As := [.int y1]) (rest := []) ⟨hx, hb, hml, hown, hts⟩ (k_X9_needArgument l D cI cZ ad u y1 hc5) (va_cwS 1 hts (gwS mw_432 mw_433 mw_19 mw_434) rfl rfl rfl (by decide +kernel) ⟨Nat.le_of_ble_eq_true rfl, Nat.le_of_ble_eq_true rfl⟩) hK hP hD hS hA hZ rfl hl.1 rfl (Nat.le_of_ble_eq_true rfl) dX9_vehicles_6 ⟨Nat.zero_le _, Nat.zero_le _⟩ (fun H locs hP hD hS => ?_)
  refine lv_iload_n hx hb dX9_vehicles_9 rfl (lv_at hl 1 rfl) ?_
  by_cases c10_0 : p0 = 0
  · replace h := gx_t c10_0 h
    refine lv_tableIn (tgt := 36) (off := 26) hx hb dX9_vehicles_10 (by rw [c10_0]; decide) (by rw [c10_0]; decide) (by rw [c10_0]; decide) (by decide) ?_
    refine lv_aload_n hx hb dX9_vehicles_36 rfl (lv_at hl 0 rfl) ?_
    refine va_get (D := D) (ci := 9) (v := .ref (ad 1)) (C := RX9) (T := TX9) (N := 10) hx hb hts iX9 hown hK hP 0 rfl rfl 1 (by decide) hf16 (fun _ h9 => h9) rfl dX9_vehicles_37 ?_
    refine va_get (D := D) (ci := 8) (v := .int (cT_came u4)) (C := RX8) (T := TX8) (N := 7) hx hb hts iX8 hown hK hP 1 rfl rfl 4 (by decide) hf117 (fun _ h9 => h9) rfl dX9_vehicles_40 ?_
    cases h
    exact cc_ret hx hb hr rfl hQ hK hP hD hS rfl dX9_vehicles_43 hlocks
  · replace h := gx_f c10_0 h
    by_cases c10_1 : p0 = 1
    · replace h := gx_t c10_1 h
      refine lv_tableIn (tgt := 44) (off := 34) hx hb dX9_vehicles_10 (by rw [c10_1]; decide) (by rw [c10_1]; decide) (by rw [c10_1]; decide) (by decide) ?_
      refine lv_aload_n hx hb dX9_vehicles_44 rfl (lv_at hl 0 rfl) ?_
      refine va_get (D := D) (ci := 9) (v := .ref (ad 1)) (C := RX9) (T := TX9) (N := 10) hx hb hts iX9 hown hK hP 0 rfl rfl 1 (by decide) hf16 (fun _ h9 => h9) rfl dX9_vehicles_45 ?_
      obtain ⟨y6, hc7, h⟩ := gx_bind h
      refine cc_iV (As := []) (rest := []) ⟨hx, hb, hml, hown, hts⟩ (k_X8_countOnRoad l D cI cZ ad u4 hc7) (cwV 0 hts (gwV mw_693 mw_694 mw_695 mw_20 mw_696) rfl rfl rfl (by decide +kernel) ⟨Nat.le_of_ble_eq_true rfl, Nat.le_of_ble_eq_true rfl⟩) hK hP hD hS hA hZ (ci := 8) (q0 := 1) rfl rfl rfl hl.1 rfl (Nat.le_of_ble_eq_true rfl) dX9_vehicles_48 ⟨Nat.zero_le _, Nat.zero_le _⟩ (fun H locs hP hD hS => ?_)
      cases h
      exact cc_ret hx hb hr rfl hQ hK hP hD hS rfl dX9_vehicles_51 hlocks
    · replace h := gx_f c10_1 h
      by_cases c10_2 : p0 = 2
      · replace h := gx_t c10_2 h
        refine lv_tableIn (tgt := 52) (off := 42) hx hb dX9_vehicles_10 (by rw [c10_2]; decide) (by rw [c10_2]; decide) (by rw [c10_2]; decide) (by decide) ?_
        refine lv_aload_n hx hb dX9_vehicles_52 rfl (lv_at hl 0 rfl) ?_
        refine va_get (D := D) (ci := 9) (v := .ref (ad 1)) (C := RX9) (T := TX9) (N := 10) hx hb hts iX9 hown hK hP 0 rfl rfl 1 (by decide) hf16 (fun _ h9 => h9) rfl dX9_vehicles_53 ?_
        refine va_get (D := D) (ci := 8) (v := .int (cT_waiting u4)) (C := RX8) (T := TX8) (N := 7) hx hb hts iX8 hown hK hP 1 rfl rfl 5 (by decide) hf124 (fun _ h9 => h9) rfl dX9_vehicles_56 ?_
        cases h
        exact cc_ret hx hb hr rfl hQ hK hP hD hS rfl dX9_vehicles_59 hlocks
      · replace h := gx_f c10_2 h
        have t10_0 := gx_sw0 (n := 0) rfl c10_0
        have t10_1 := gx_sw0 (n := 1) rfl c10_1
        have t10_2 := gx_sw0 (n := 2) rfl c10_2
        refine lv_tableOut (tgt := 60) hx hb dX9_vehicles_10 (by omega) (by decide) ?_
        refine lv_aload_n hx hb dX9_vehicles_60 rfl (lv_at hl 0 rfl) ?_
        refine va_get (D := D) (ci := 9) (v := .ref (ad 1)) (C := RX9) (T := TX9) (N := 10) hx hb hts iX9 hown hK hP 0 rfl rfl 1 (by decide) hf16 (fun _ h9 => h9) rfl dX9_vehicles_61 ?_
        refine va_get (D := D) (ci := 8) (v := .int (cT_gone u4)) (C := RX8) (T := TX8) (N := 7) hx hb hts iX8 hown hK hP 1 rfl rfl 6 (by decide) hf127 (fun _ h9 => h9) rfl dX9_vehicles_64 ?_
        cases h
        exact cc_ret hx hb hr rfl hQ hK hP hD hS rfl dX9_vehicles_67 hlocks

def rX6_shutAll : Room := { frames := 0, cells := 0, slots := 0, locals := 0 }
set_option maxHeartbeats 4000000 in
set_option maxRecDepth 100000 in
theorem k_X6_shutAll (l : Launch) (D : va_G) (cI cZ : ClassId) (ad : Nat → Nat) (u : GS) {r : Int32} {w' : GS} (h : g_X6_shutAll u = some (r, w')) : MI l yX6_shutAll (wm yX6_shutAll cX6_shutAll 3 (some .int)) rX6_shutAll D [(cI, .int), (cZ, .boolean)] (wC cI cZ ad u) (wC cI cZ ad w') [.ref (ad 5)] r := by
  intro sz
  refine Met.ofW (cc := cX6_shutAll) (maxL := 3) (ret := (some .int)) (by decide) rfl ?_
  intro p e s m args below meth c s₁ B hml hv
  obtain ⟨rfl, hsz, hP, hK, hD0, hZ⟩ := hv
  have hx := B.exec
  have hb := B.bytes
  have hr := B.returns
  have hts : ∀ w ∈ Wall, w.before _ s = true := fun w hw => atoms_spec (ws := wm yX6_shutAll cX6_shutAll 3 (some .int)) B.pre w (List.mem_cons_of_mem _ hw)
  have hown : s.vm.findClass RX6 = some m.cls := findClass_of_methodNamed B.named
  have hlocks := B.notSynchronized
  subst hsz
  have hD := hD0.self (sz := s.heap.size)
  generalize hAe : va_A (wC cI cZ ad u) s.heap.size = A at hD hZ ⊢
  have hA : ∀ q : Nat, s.heap.size ≤ q → A q := fun q h => by rw [← hAe]; exact Or.inr h
  have hS : va_S A s.heap s.heap [] := va_S.rf
  have hf9 := hts _ mw_142
  have hl := lv_entry ([.ref (ad 5)]) (n := 3) (Nat.le_of_ble_eq_true rfl)
  rw [lg_entry_eq]
  generalize (lg_sl ([.ref (ad 5)]) ++ List.replicate (3 - (lg_sl ([.ref (ad 5)])).length) Slot.unset).toArray = ls at hl ⊢
  replace hl : lv_has ls 3 [(0, .ref (ad 5))] := hl
  refine w_gen (fun Q hQ => ?_)
  refine lv_iconst (v := 0) hx hb dX6_shutAll_0 (by decide) ?_
  refine lv_istore_n (lv' := [(1, .int (0 : Int32)), (0, .ref (ad 5))]) hx hb dX6_shutAll_1 rfl hl (by decide) rfl (fun ls hl => ?_)
  refine lv_iconst (v := 0) hx hb dX6_shutAll_2 (by decide) ?_
  refine lv_istore_n (lv' := [(2, .int (0 : Int32)), (1, .int (0 : Int32)), (0, .ref (ad 5))]) hx hb dX6_shutAll_3 rfl hl (by decide) rfl (fun ls hl => ?_)
  have hL4 : ∀ (k : Int32 → GS → Option (Int32 × GS)) (hk : ∀ (x1_4 : Int32) (w4 : GS) (H : Heap) (locs : List Loc) (ls : Array Slot), k x1_4 w4 = some (r, w') → va_P D vwCl (wC cI cZ ad w4) H → va_D A (wC cI cZ ad w4) → va_S A s.heap H locs → lv_has ls 3 [(1, .int x1_4)] → W p l e rX6_shutAll s m ([.ref (ad 5)] : List Value).toArray below meth c H locs 0 0 Q (F0 m 35 ls [])) (n : Nat) (x1_4 : Int32) (x2_4 : Int32) (w4 : GS) (H : Heap) (locs : List Loc) (ls : Array Slot), lp_X6_shutAll_4 k n x1_4 x2_4 w4 = some (r, w') → va_P D vwCl (wC cI cZ ad w4) H → va_D A (wC cI cZ ad w4) → va_S A s.heap H locs → lv_has ls 3 [(0, .ref (ad 5)), (1, .int x1_4), (2, .int x2_4)] → W p l e rX6_shutAll s m ([.ref (ad 5)] : List Value).toArray below meth c H locs 0 0 Q (F0 m 4 ls []) := by
    intro k hk n
    induction n with
    | zero =>
      intro x1_4 x2_4 w4 H locs ls h
      rw [lp_X6_shutAll_4] at h
      cases h
    | succ n ih =>
      intro x1_4 x2_4 w4 H locs ls h hP hD hS hl
      rw [lp_X6_shutAll_4] at h
      refine lv_iload_n hx hb dX6_shutAll_4 rfl (lv_at hl 2 rfl) ?_
      refine lv_bipush (v := 12) hx hb dX6_shutAll_5 (by decide) ?_
      refine lv_icmp_ge (tgt := 35) hx hb dX6_shutAll_7 (by decide) (fun c1 => ?_) (fun c1 => ?_)
      · replace h := gx_t c1 h
        exact hk x1_4 w4 _ _ _ h hP hD hS (lv_sub hl [1] rfl)
      · replace h := gx_f c1 h
        refine lv_aload_n hx hb dX6_shutAll_10 rfl (lv_at hl 0 rfl) ?_
        refine va_get (D := D) (ci := 6) (v := .ref (ad 21)) (C := RX6) (T := TX6) (N := 2) hx hb hts iX6 hown hK hP 5 rfl rfl 0 (by decide) hf9 (fun _ h9 => h9) rfl dX6_shutAll_11 ?_
        refine lv_iload_n hx hb dX6_shutAll_14 rfl (lv_at hl 2 rfl) ?_
        obtain ⟨b2, h⟩ := gx_in h
        refine va_zald (D := D) hx hb hK hP 21 1 rfl rfl b2 dX6_shutAll_15 ?_
        obtain ⟨j29_3, ej29_3, h⟩ := gx_let h
        have hj29_3 : ∀ (x1_29 : Int32) (w29 : GS) (H : Heap) (locs : List Loc) (ls : Array Slot), j29_3 x1_29 w29 = some (r, w') → va_P D vwCl (wC cI cZ ad w29) H → va_D A (wC cI cZ ad w29) → va_S A s.heap H locs → lv_has ls 3 [(0, .ref (ad 5)), (1, .int x1_29), (2, .int x2_4)] → W p l e rX6_shutAll s m ([.ref (ad 5)] : List Value).toArray below meth c H locs 0 0 Q (F0 m 29 ls []) := by
          intro x1_29 w29 H locs ls h hP hD hS hl
          subst ej29_3
          obtain ⟨v4, ev4, h⟩ := gx_let h
          refine lv_iinc (v := v4) (lv' := [(2, .int v4), (0, .ref (ad 5)), (1, .int x1_29)]) hx hb dX6_shutAll_29 hl (k := 2) rfl (by rw [← ev4]; rfl) (by decide) rfl (fun ls hl => ?_)
          refine lv_goto (tgt := 4) hx hb dX6_shutAll_32 (by decide) ?_
          exact ih x1_29 v4 w29 _ _ _ h hP hD hS (lv_sub hl [1, 2, 0] rfl)
        refine lv_if_eq (tgt := 29) hx hb dX6_shutAll_16 (by decide) (fun c5 => ?_) (fun c5 => ?_)
        · replace h := gx_t c5 h
          exact hj29_3 x1_4 w4 _ _ _ h hP hD hS (lv_sub hl [0, 1, 2] rfl)
        · replace h := gx_f c5 h
          refine lv_aload_n hx hb dX6_shutAll_19 rfl (lv_at hl 0 rfl) ?_
          refine va_get (D := D) (ci := 6) (v := .ref (ad 21)) (C := RX6) (T := TX6) (N := 2) hx hb hts iX6 hown hK hP 5 rfl rfl 0 (by decide) hf9 (fun _ h9 => h9) rfl dX6_shutAll_20 ?_
          refine lv_iload_n hx hb dX6_shutAll_23 rfl (lv_at hl 2 rfl) ?_
          refine lv_iconst (v := 0) hx hb dX6_shutAll_24 (by decide) ?_
          obtain ⟨b6, h⟩ := gx_in h
          refine va_zast (D := D) hx hb hK hP hD hS 21 1 rfl rfl b6 dX6_shutAll_25 (fun H locs hP hD hS => ?_)
          obtain ⟨u7, eu7, h⟩ := gx_let h
          replace hP : va_P D vwCl (wC cI cZ ad u7) H := by rw [← eu7]; exact hP
          replace hD : va_D A (wC cI cZ ad u7) := by rw [← eu7]; exact hD
          obtain ⟨v8, ev8, h⟩ := gx_let h
          refine lv_iinc (v := v8) (lv' := [(1, .int v8), (0, .ref (ad 5)), (2, .int x2_4)]) hx hb dX6_shutAll_26 hl (k := 1) rfl (by rw [← ev8]; rfl) (by decide) rfl (fun ls hl => ?_)
          exact hj29_3 v8 u7 _ _ _ h hP hD hS (lv_sub hl [1, 0, 2] rfl)
  refine hL4 _ (fun x1_4 w4 H locs ls h hP hD hS hl => ?_) FU (0 : Int32) (0 : Int32) u _ _ _ h hP hD hS (lv_sub hl [2, 1, 0] rfl)
  refine lv_iload_n hx hb dX6_shutAll_35 rfl (lv_at hl 0 rfl) ?_
  cases h
  exact cc_ret hx hb hr rfl hQ hK hP hD hS rfl dX6_shutAll_36 hlocks

def rX9_stop : Room := { frames := 3, cells := 0, slots := 0, locals := 63 }
set_option maxHeartbeats 4000000 in
set_option maxRecDepth 100000 in
theorem k_X9_stop (l : Launch) (D : va_G) (cI cZ : ClassId) (ad : Nat → Nat) (u : GS) (p0 : Int32) (p1 : Int32) {r : Int32} {w' : GS} (h : g_X9_stop u p0 p1 = some (.inl r, w')) : MV l yX9_stop (wm yX9_stop cX9_stop 4 none) rX9_stop D [(cI, .int), (cZ, .boolean)] (wC cI cZ ad u) (wC cI cZ ad w') [.ref (ad 0), .int p0, .int p1] := by
  intro sz
  refine Met.ofW (cc := cX9_stop) (maxL := 4) (ret := none) (by decide) rfl ?_
  intro p e s m args below meth c s₁ B hml hv
  obtain ⟨rfl, hsz, hP, hK, hD0, hZ⟩ := hv
  have hx := B.exec
  have hb := B.bytes
  have hr := B.returns
  have hts : ∀ w ∈ Wall, w.before _ s = true := fun w hw => atoms_spec (ws := wm yX9_stop cX9_stop 4 none) B.pre w (List.mem_cons_of_mem _ hw)
  have hown : s.vm.findClass RX9 = some m.cls := findClass_of_methodNamed B.named
  have hlocks := B.notSynchronized
  subst hsz
  have hD := hD0.self (sz := s.heap.size)
  generalize hAe : va_A (wC cI cZ ad u) s.heap.size = A at hD hZ ⊢
  have hA : ∀ q : Nat, s.heap.size ≤ q → A q := fun q h => by rw [← hAe]; exact Or.inr h
  have hS : va_S A s.heap s.heap [] := va_S.rf
  have hf16 := hts _ mw_275
  have hf191 := hts _ mw_53
  have hf44 := hts _ mw_279
  have hf179 := hts _ mw_144
  have hl := lv_entry ([.ref (ad 0), .int p0, .int p1]) (n := 4) (Nat.le_of_ble_eq_true rfl)
  rw [lg_entry_eq]
  generalize (lg_sl ([.ref (ad 0), .int p0, .int p1]) ++ List.replicate (4 - (lg_sl ([.ref (ad 0), .int p0, .int p1])).length) Slot.unset).toArray = ls at hl ⊢
  replace hl : lv_has ls 4 [(0, .ref (ad 0)), (1, .int p0), (2, .int p1)] := hl
  refine w_gen (fun Q hQ => ?_)
  refine lv_iload_n hx hb dX9_stop_0 rfl (lv_at hl 1 rfl) ?_
  refine lv_iload_n hx hb dX9_stop_1 rfl (lv_at hl 2 rfl) ?_
  obtain ⟨y1, u2, hc3, h⟩ := gx_xr h
  refine cc_vS (As := [.int p0, .int p1]) (rest := []) ⟨hx, hb, hml, hown, hts⟩ (k_X9_needPlace l D cI cZ ad u p0 p1 hc3) (va_cwS 2 hts (gwS mw_309 mw_310 mw_19 mw_311) rfl rfl rfl (by decide +kernel) ⟨Nat.le_of_ble_eq_true rfl, Nat.le_of_ble_eq_true rfl⟩) hK hP hD hS hA hZ rfl hl.1 rfl (Nat.le_of_ble_eq_true rfl) dX9_stop_2 ⟨Nat.zero_le _, Nat.zero_le _⟩ (fun H locs hP hD hS => ?_)
  refine lv_iload_n hx hb dX9_stop_5 rfl (lv_at hl 1 rfl) ?_
  refine lv_iload_n hx hb dX9_stop_6 rfl (lv_at hl 2 rfl) ?_
  obtain ⟨y4, hc5, h⟩ := gx_bind h
  refine cc_iS (As := [.int p0, .int p1]) (rest := []) ⟨hx, hb, hml, hown, hts⟩ (k_X9_placeOf l D cI cZ ad u2 p0 p1 hc5) (va_cwS 2 hts (gwS mw_391 mw_236 mw_19 mw_237) rfl rfl rfl (by decide +kernel) ⟨Nat.le_of_ble_eq_true rfl, Nat.le_of_ble_eq_true rfl⟩) hK hP hD hS hA hZ rfl hl.1 rfl (Nat.le_of_ble_eq_true rfl) dX9_stop_7 ⟨Nat.zero_le _, Nat.zero_le _⟩ (fun H locs hP hD hS => ?_)
  refine lv_istore_n (lv' := [(3, .int y4), (0, .ref (ad 0)), (1, .int p0), (2, .int p1)]) hx hb dX9_stop_10 rfl hl (by decide) rfl (fun ls hl => ?_)
  refine lv_aload_n hx hb dX9_stop_11 rfl (lv_at hl 1 rfl) ?_
  refine va_get (D := D) (ci := 9) (v := .ref (ad 1)) (C := RX9) (T := TX9) (N := 10) hx hb hts iX9 hown hK hP 0 rfl rfl 1 (by decide) hf16 (fun _ h9 => h9) rfl dX9_stop_12 ?_
  refine va_get (D := D) (ci := 8) (v := .ref (ad 11)) (C := RX8) (T := TX8) (N := 7) hx hb hts iX8 hown hK hP 1 rfl rfl 1 (by decide) hf191 (fun _ h9 => h9) rfl dX9_stop_15 ?_
  refine lv_iload_n hx hb dX9_stop_18 rfl (lv_at hl 0 rfl) ?_
  obtain ⟨b6, h⟩ := gx_in h
  refine va_zald (D := D) hx hb hK hP 11 1 rfl rfl b6 dX9_stop_19 ?_
  obtain ⟨j28_7, ej28_7, h⟩ := gx_let h
  have hj28_7 : ∀ (z0_28 : Int32) (H : Heap) (locs : List Loc) (ls : Array Slot), j28_7 z0_28 = some (.inl r, w') → va_P D vwCl (wC cI cZ ad u2) H → va_D A (wC cI cZ ad u2) → va_S A s.heap H locs → lv_has ls 4 [(0, .ref (ad 0)), (1, .int p0), (2, .int p1), (3, .int y4)] → W p l e rX9_stop s m ([.ref (ad 0), .int p0, .int p1] : List Value).toArray below meth c H locs 0 0 Q (F0 m 28 ls [.int z0_28]) := by
    intro z0_28 H locs ls h hP hD hS hl
    subst ej28_7
    obtain ⟨y8, u9, hc10, h⟩ := gx_xr h
    refine cc_vS (As := [.int z0_28]) (rest := []) ⟨hx, hb, hml, hown, hts⟩ (k_X9_needState l D cI cZ ad u2 z0_28 hc10) (va_cwS 1 hts (gwS mw_455 mw_456 mw_19 mw_457) rfl rfl rfl (by decide +kernel) ⟨Nat.le_of_ble_eq_true rfl, Nat.le_of_ble_eq_true rfl⟩) hK hP hD hS hA hZ rfl hl.1 rfl (Nat.le_of_ble_eq_true rfl) dX9_stop_28 ⟨Nat.zero_le _, Nat.zero_le _⟩ (fun H locs hP hD hS => ?_)
    refine lv_aload_n hx hb dX9_stop_31 rfl (lv_at hl 0 rfl) ?_
    refine va_get (D := D) (ci := 9) (v := .ref (ad 1)) (C := RX9) (T := TX9) (N := 10) hx hb hts iX9 hown hK hP 0 rfl rfl 1 (by decide) hf16 (fun _ h9 => h9) rfl dX9_stop_32 ?_
    refine va_get (D := D) (ci := 8) (v := .ref (ad 11)) (C := RX8) (T := TX8) (N := 7) hx hb hts iX8 hown hK hP 1 rfl rfl 1 (by decide) hf191 (fun _ h9 => h9) rfl dX9_stop_35 ?_
    refine lv_iload_n hx hb dX9_stop_38 rfl (lv_at hl 3 rfl) ?_
    refine lv_iconst (v := 1) hx hb dX9_stop_39 (by decide) ?_
    obtain ⟨b11, h⟩ := gx_in h
    refine va_zast (D := D) hx hb hK hP hD hS 11 1 rfl rfl b11 dX9_stop_40 (fun H locs hP hD hS => ?_)
    obtain ⟨u12, eu12, h⟩ := gx_let h
    replace hP : va_P D vwCl (wC cI cZ ad u12) H := by rw [← eu12]; exact hP
    replace hD : va_D A (wC cI cZ ad u12) := by rw [← eu12]; exact hD
    refine lv_iload_n hx hb dX9_stop_41 rfl (lv_at hl 2 rfl) ?_
    refine lv_if_ne (tgt := 65) hx hb dX9_stop_42 (by decide) (fun c13 => ?_) (fun c13 => ?_)
    · replace h := gx_f c13 h
      cases h
      exact cc_vret hx hb hr hQ hK hP hD hS dX9_stop_65 hlocks
    · replace h := gx_t c13 h
      refine lv_aload_n hx hb dX9_stop_45 rfl (lv_at hl 0 rfl) ?_
      refine va_get (D := D) (ci := 9) (v := .ref (ad 5)) (C := RX9) (T := TX9) (N := 10) hx hb hts iX9 hown hK hP 0 rfl rfl 5 (by decide) hf44 (fun _ h9 => h9) rfl dX9_stop_46 ?_
      refine va_get (D := D) (ci := 6) (v := .ref (ad 22)) (C := RX6) (T := TX6) (N := 2) hx hb hts iX6 hown hK hP 5 rfl rfl 1 (by decide) hf179 (fun _ h9 => h9) rfl dX9_stop_49 ?_
      refine lv_iload_n hx hb dX9_stop_52 rfl (lv_at hl 1 rfl) ?_
      refine lv_sipush (v := (-1000)) hx hb dX9_stop_53 (by decide) ?_
      obtain ⟨b14, h⟩ := gx_in h
      refine va_iast (D := D) hx hb hK hP hD hS 22 0 rfl rfl b14 dX9_stop_56 (fun H locs hP hD hS => ?_)
      obtain ⟨u15, eu15, h⟩ := gx_let h
      replace hP : va_P D vwCl (wC cI cZ ad u15) H := by rw [← eu15]; exact hP
      replace hD : va_D A (wC cI cZ ad u15) := by rw [← eu15]; exact hD
      refine lv_aload_n hx hb dX9_stop_57 rfl (lv_at hl 0 rfl) ?_
      refine va_get (D := D) (ci := 9) (v := .ref (ad 5)) (C := RX9) (T := TX9) (N := 10) hx hb hts iX9 hown hK hP 0 rfl rfl 5 (by decide) hf44 (fun _ h9 => h9) rfl dX9_stop_58 ?_
      obtain ⟨y16, hc17, h⟩ := gx_bind h
      refine cc_iV (As := []) (rest := []) ⟨hx, hb, hml, hown, hts⟩ (k_X6_shutAll l D cI cZ ad u15 hc17) (cwV 0 hts (gwV mw_576 mw_577 mw_578 mw_24 mw_579) rfl rfl rfl (by decide +kernel) ⟨Nat.le_of_ble_eq_true rfl, Nat.le_of_ble_eq_true rfl⟩) hK hP hD hS hA hZ (ci := 6) (q0 := 5) rfl rfl rfl hl.1 rfl (Nat.le_of_ble_eq_true rfl) dX9_stop_61 ⟨Nat.zero_le _, Nat.zero_le _⟩ (fun H locs hP hD hS => ?_)
      refine lv_pop hx hb dX9_stop_64 rfl ?_
      cases h
      exact cc_vret hx hb hr hQ hK hP hD hS dX9_stop_65 hlocks
  refine lv_if_ne (tgt := 27) hx hb dX9_stop_20 (by decide) (fun c18 => ?_) (fun c18 => ?_)
  · replace h := gx_f c18 h
    refine lv_iconst (v := 0) hx hb dX9_stop_27 (by decide) ?_
    exact hj28_7 (0 : Int32) _ _ _ h hP hD hS (lv_sub hl [1, 2, 3, 0] rfl)
  · replace h := gx_t c18 h
    refine lv_iconst (v := 1) hx hb dX9_stop_23 (by decide) ?_
    refine lv_goto (tgt := 28) hx hb dX9_stop_24 (by decide) ?_
    exact hj28_7 (1 : Int32) _ _ _ h hP hD hS (lv_sub hl [1, 2, 3, 0] rfl)

def rx_X9_stop : Room := { frames := 9, cells := 1, slots := 6, locals := 151 }
set_option maxHeartbeats 4000000 in
set_option maxRecDepth 100000 in
theorem kx_X9_stop (l : Launch) (hl0 : l.stackTraces = false) (D : va_G) (cI cZ : ClassId) (ad : Nat → Nat) (u : GS) (p0 : Int32) (p1 : Int32) {E : String} {w' : GS} (h : g_X9_stop u p0 p1 = some (.inr E, w')) : XV l yX9_stop (wm yX9_stop cX9_stop 4 none) rx_X9_stop D [(cI, .int), (cZ, .boolean)] (wC cI cZ ad u) (wC cI cZ ad w') [.ref (ad 0), .int p0, .int p1] E := by
  intro sz
  refine vx_ofW (cc := cX9_stop) (maxL := 4) (ret := none) (by decide) rfl ?_
  intro p e s m args below meth c s₁ B hml hout hv
  obtain ⟨rfl, hsz, hP, hK, hD0, hZ⟩ := hv
  have hx := B.exec
  have hb := B.bytes
  have hts : ∀ w ∈ Wall, w.before _ s = true := fun w hw => atoms_spec (ws := wm yX9_stop cX9_stop 4 none) B.pre w (List.mem_cons_of_mem _ hw)
  have hown : s.vm.findClass RX9 = some m.cls := findClass_of_methodNamed B.named
  have hlocks := B.notSynchronized
  subst hsz
  have hD := hD0.self (sz := s.heap.size)
  generalize hAe : va_A (wC cI cZ ad u) s.heap.size = A at hD hZ
  have hA : ∀ q : Nat, s.heap.size ≤ q → A q := fun q h => by rw [← hAe]; exact Or.inr h
  have hS : va_S A s.heap s.heap [] := va_S.rf
  have hf16 := hts _ mw_275
  have hf191 := hts _ mw_53
  have hf44 := hts _ mw_279
  have hf179 := hts _ mw_144
  have hl := lv_entry ([.ref (ad 0), .int p0, .int p1]) (n := 4) (Nat.le_of_ble_eq_true rfl)
  rw [lg_entry_eq]
  generalize (lg_sl ([.ref (ad 0), .int p0, .int p1]) ++ List.replicate (4 - (lg_sl ([.ref (ad 0), .int p0, .int p1])).length) Slot.unset).toArray = ls at hl ⊢
  replace hl : lv_has ls 4 [(0, .ref (ad 0)), (1, .int p0), (2, .int p1)] := hl
  refine w_gen (fun Q hQ => ?_)
  refine lv_iload_n hx hb dX9_stop_0 rfl (lv_at hl 1 rfl) ?_
  refine lv_iload_n hx hb dX9_stop_1 rfl (lv_at hl 2 rfl) ?_
  rcases gx_xx h with ⟨y1, u2, hc3, h⟩ | ⟨u2, hc3, ew⟩
  · refine cc_vS (As := [.int p0, .int p1]) (rest := []) ⟨hx, hb, hml, hown, hts⟩ (k_X9_needPlace l D cI cZ ad u p0 p1 hc3) (va_cwS 2 hts (gwS mw_309 mw_310 mw_19 mw_311) rfl rfl rfl (by decide +kernel) ⟨Nat.le_of_ble_eq_true rfl, Nat.le_of_ble_eq_true rfl⟩) hK hP hD hS hA hZ rfl hl.1 rfl (Nat.le_of_ble_eq_true rfl) dX9_stop_2 ⟨Nat.zero_le _, Nat.zero_le _⟩ (fun H locs hP hD hS => ?_)
    refine lv_iload_n hx hb dX9_stop_5 rfl (lv_at hl 1 rfl) ?_
    refine lv_iload_n hx hb dX9_stop_6 rfl (lv_at hl 2 rfl) ?_
    obtain ⟨y4, hc5, h⟩ := gx_bind h
    refine cc_iS (As := [.int p0, .int p1]) (rest := []) ⟨hx, hb, hml, hown, hts⟩ (k_X9_placeOf l D cI cZ ad u2 p0 p1 hc5) (va_cwS 2 hts (gwS mw_391 mw_236 mw_19 mw_237) rfl rfl rfl (by decide +kernel) ⟨Nat.le_of_ble_eq_true rfl, Nat.le_of_ble_eq_true rfl⟩) hK hP hD hS hA hZ rfl hl.1 rfl (Nat.le_of_ble_eq_true rfl) dX9_stop_7 ⟨Nat.zero_le _, Nat.zero_le _⟩ (fun H locs hP hD hS => ?_)
    refine lv_istore_n (lv' := [(3, .int y4), (0, .ref (ad 0)), (1, .int p0), (2, .int p1)]) hx hb dX9_stop_10 rfl hl (by decide) rfl (fun ls hl => ?_)
    refine lv_aload_n hx hb dX9_stop_11 rfl (lv_at hl 1 rfl) ?_
    refine va_get (D := D) (ci := 9) (v := .ref (ad 1)) (C := RX9) (T := TX9) (N := 10) hx hb hts iX9 hown hK hP 0 rfl rfl 1 (by decide) hf16 (fun _ h9 => h9) rfl dX9_stop_12 ?_
    refine va_get (D := D) (ci := 8) (v := .ref (ad 11)) (C := RX8) (T := TX8) (N := 7) hx hb hts iX8 hown hK hP 1 rfl rfl 1 (by decide) hf191 (fun _ h9 => h9) rfl dX9_stop_15 ?_
    refine lv_iload_n hx hb dX9_stop_18 rfl (lv_at hl 0 rfl) ?_
    obtain ⟨b6, h⟩ := gx_in h
    refine va_zald (D := D) hx hb hK hP 11 1 rfl rfl b6 dX9_stop_19 ?_
    obtain ⟨j28_7, ej28_7, h⟩ := gx_let h
    have hj28_7 : ∀ (z0_28 : Int32) (H : Heap) (locs : List Loc) (ls : Array Slot), j28_7 z0_28 = some (.inr E, w') → va_P D vwCl (wC cI cZ ad u2) H → va_D A (wC cI cZ ad u2) → va_S A s.heap H locs → lv_has ls 4 [(0, .ref (ad 0)), (1, .int p0), (2, .int p1), (3, .int y4)] → W p l e rx_X9_stop s m ([.ref (ad 0), .int p0, .int p1] : List Value).toArray below meth c H locs 0 0 Q (F0 m 28 ls [.int z0_28]) := by
      intro z0_28 H locs ls h hP hD hS hl
      subst ej28_7
      rcases gx_xx h with ⟨y8, u9, hc10, h⟩ | ⟨u9, hc10, ew⟩
      · refine cc_vS (As := [.int z0_28]) (rest := []) ⟨hx, hb, hml, hown, hts⟩ (k_X9_needState l D cI cZ ad u2 z0_28 hc10) (va_cwS 1 hts (gwS mw_455 mw_456 mw_19 mw_457) rfl rfl rfl (by decide +kernel) ⟨Nat.le_of_ble_eq_true rfl, Nat.le_of_ble_eq_true rfl⟩) hK hP hD hS hA hZ rfl hl.1 rfl (Nat.le_of_ble_eq_true rfl) dX9_stop_28 ⟨Nat.zero_le _, Nat.zero_le _⟩ (fun H locs hP hD hS => ?_)
        refine lv_aload_n hx hb dX9_stop_31 rfl (lv_at hl 0 rfl) ?_
        refine va_get (D := D) (ci := 9) (v := .ref (ad 1)) (C := RX9) (T := TX9) (N := 10) hx hb hts iX9 hown hK hP 0 rfl rfl 1 (by decide) hf16 (fun _ h9 => h9) rfl dX9_stop_32 ?_
        refine va_get (D := D) (ci := 8) (v := .ref (ad 11)) (C := RX8) (T := TX8) (N := 7) hx hb hts iX8 hown hK hP 1 rfl rfl 1 (by decide) hf191 (fun _ h9 => h9) rfl dX9_stop_35 ?_
        refine lv_iload_n hx hb dX9_stop_38 rfl (lv_at hl 3 rfl) ?_
        refine lv_iconst (v := 1) hx hb dX9_stop_39 (by decide) ?_
        obtain ⟨b11, h⟩ := gx_in h
        refine va_zast (D := D) hx hb hK hP hD hS 11 1 rfl rfl b11 dX9_stop_40 (fun H locs hP hD hS => ?_)
        obtain ⟨u12, eu12, h⟩ := gx_let h
        replace hP : va_P D vwCl (wC cI cZ ad u12) H := by rw [← eu12]; exact hP
        replace hD : va_D A (wC cI cZ ad u12) := by rw [← eu12]; exact hD
        refine lv_iload_n hx hb dX9_stop_41 rfl (lv_at hl 2 rfl) ?_
        refine lv_if_ne (tgt := 65) hx hb dX9_stop_42 (by decide) (fun c13 => ?_) (fun c13 => ?_)
        · replace h := gx_f c13 h
          cases h
        · replace h := gx_t c13 h
          refine lv_aload_n hx hb dX9_stop_45 rfl (lv_at hl 0 rfl) ?_
          refine va_get (D := D) (ci := 9) (v := .ref (ad 5)) (C := RX9) (T := TX9) (N := 10) hx hb hts iX9 hown hK hP 0 rfl rfl 5 (by decide) hf44 (fun _ h9 => h9) rfl dX9_stop_46 ?_
          refine va_get (D := D) (ci := 6) (v := .ref (ad 22)) (C := RX6) (T := TX6) (N := 2) hx hb hts iX6 hown hK hP 5 rfl rfl 1 (by decide) hf179 (fun _ h9 => h9) rfl dX9_stop_49 ?_
          refine lv_iload_n hx hb dX9_stop_52 rfl (lv_at hl 1 rfl) ?_
          refine lv_sipush (v := (-1000)) hx hb dX9_stop_53 (by decide) ?_
          obtain ⟨b14, h⟩ := gx_in h
          refine va_iast (D := D) hx hb hK hP hD hS 22 0 rfl rfl b14 dX9_stop_56 (fun H locs hP hD hS => ?_)
          obtain ⟨u15, eu15, h⟩ := gx_let h
          replace hP : va_P D vwCl (wC cI cZ ad u15) H := by rw [← eu15]; exact hP
          replace hD : va_D A (wC cI cZ ad u15) := by rw [← eu15]; exact hD
          refine lv_aload_n hx hb dX9_stop_57 rfl (lv_at hl 0 rfl) ?_
          refine va_get (D := D) (ci := 9) (v := .ref (ad 5)) (C := RX9) (T := TX9) (N := 10) hx hb hts iX9 hown hK hP 0 rfl rfl 5 (by decide) hf44 (fun _ h9 => h9) rfl dX9_stop_58 ?_
          obtain ⟨y16, hc17, h⟩ := gx_bind h
          refine cc_iV (As := []) (rest := []) ⟨hx, hb, hml, hown, hts⟩ (k_X6_shutAll l D cI cZ ad u15 hc17) (cwV 0 hts (gwV mw_576 mw_577 mw_578 mw_24 mw_579) rfl rfl rfl (by decide +kernel) ⟨Nat.le_of_ble_eq_true rfl, Nat.le_of_ble_eq_true rfl⟩) hK hP hD hS hA hZ (ci := 6) (q0 := 5) rfl rfl rfl hl.1 rfl (Nat.le_of_ble_eq_true rfl) dX9_stop_61 ⟨Nat.zero_le _, Nat.zero_le _⟩ (fun H locs hP hD hS => ?_)
          refine lv_pop hx hb dX9_stop_64 rfl ?_
          cases h
      · replace ew : u9 = w' := ew
        subst ew
        refine cX_vS (As := [.int z0_28]) (rest := []) ⟨hx, hb, hml, hown, hts⟩ (kx_X9_needState l hl0 D cI cZ ad u2 z0_28 hc10) (va_cwS 1 hts (gwS mw_455 mw_456 mw_19 mw_457) rfl rfl rfl (by decide +kernel) ⟨Nat.le_of_ble_eq_true rfl, Nat.le_of_ble_eq_true rfl⟩) hK hP hD hS hA hZ rfl hl.1 rfl (Nat.le_of_ble_eq_true rfl) dX9_stop_28 ⟨Nat.le_of_ble_eq_true rfl, Nat.le_of_ble_eq_true rfl⟩ (fun ce q9 H locs hP hD hS hz h1 h2 h3 => ?_)
        exact cX_back hAe hQ hout hlocks hK rfl hP hD hS hz h1 h2 h3 (Nat.le_refl _) (Nat.le_refl _)
    refine lv_if_ne (tgt := 27) hx hb dX9_stop_20 (by decide) (fun c18 => ?_) (fun c18 => ?_)
    · replace h := gx_f c18 h
      refine lv_iconst (v := 0) hx hb dX9_stop_27 (by decide) ?_
      exact hj28_7 (0 : Int32) _ _ _ h hP hD hS (lv_sub hl [1, 2, 3, 0] rfl)
    · replace h := gx_t c18 h
      refine lv_iconst (v := 1) hx hb dX9_stop_23 (by decide) ?_
      refine lv_goto (tgt := 28) hx hb dX9_stop_24 (by decide) ?_
      exact hj28_7 (1 : Int32) _ _ _ h hP hD hS (lv_sub hl [1, 2, 3, 0] rfl)
  · replace ew : u2 = w' := ew
    subst ew
    refine cX_vS (As := [.int p0, .int p1]) (rest := []) ⟨hx, hb, hml, hown, hts⟩ (kx_X9_needPlace l hl0 D cI cZ ad u p0 p1 hc3) (va_cwS 2 hts (gwS mw_309 mw_310 mw_19 mw_311) rfl rfl rfl (by decide +kernel) ⟨Nat.le_of_ble_eq_true rfl, Nat.le_of_ble_eq_true rfl⟩) hK hP hD hS hA hZ rfl hl.1 rfl (Nat.le_of_ble_eq_true rfl) dX9_stop_2 ⟨Nat.le_of_ble_eq_true rfl, Nat.le_of_ble_eq_true rfl⟩ (fun ce q9 H locs hP hD hS hz h1 h2 h3 => ?_)
    exact cX_back hAe hQ hout hlocks hK rfl hP hD hS hz h1 h2 h3 (Nat.le_refl _) (Nat.le_refl _)

def rX7_wantBy : Room := { frames := 0, cells := 0, slots := 0, locals := 0 }
set_option maxHeartbeats 4000000 in
set_option maxRecDepth 100000 in
theorem k_X7_wantBy (l : Launch) (D : va_G) (cI cZ : ClassId) (ad : Nat → Nat) (u : GS) (p0 : Int32) {r : Int32} (h : g_X7_wantBy p0 = some r) : MI l yX7_wantBy (wm yX7_wantBy cX7_wantBy 1 (some .int)) rX7_wantBy D [(cI, .int), (cZ, .boolean)] (wC cI cZ ad u) (wC cI cZ ad u) [.int p0] r := by
  intro sz
  refine Met.ofW (cc := cX7_wantBy) (maxL := 1) (ret := (some .int)) (by decide) rfl ?_
  intro p e s m args below meth c s₁ B hml hv
  obtain ⟨rfl, hsz, hP, hK, hD0, hZ⟩ := hv
  have hx := B.exec
  have hb := B.bytes
  have hr := B.returns
  have hts : ∀ w ∈ Wall, w.before _ s = true := fun w hw => atoms_spec (ws := wm yX7_wantBy cX7_wantBy 1 (some .int)) B.pre w (List.mem_cons_of_mem _ hw)
  have hown : s.vm.findClass RX7 = some m.cls := findClass_of_methodNamed B.named
  have hlocks := B.notSynchronized
  subst hsz
  have hD := hD0.self (sz := s.heap.size)
  generalize hAe : va_A (wC cI cZ ad u) s.heap.size = A at hD hZ ⊢
  have hA : ∀ q : Nat, s.heap.size ≤ q → A q := fun q h => by rw [← hAe]; exact Or.inr h
  have hS : va_S A s.heap s.heap [] := va_S.rf
  have hl := lv_entry ([.int p0]) (n := 1) (Nat.le_of_ble_eq_true rfl)
  rw [lg_entry_eq]
  generalize (lg_sl ([.int p0]) ++ List.replicate (1 - (lg_sl ([.int p0])).length) Slot.unset).toArray = ls at hl ⊢
  replace hl : lv_has ls 1 [(0, .int p0)] := hl
  refine w_gen (fun Q hQ => ?_)
  refine lv_iload_n hx hb dX7_wantBy_0 rfl (lv_at hl 0 rfl) ?_
  refine lv_iconst (v := (-1)) hx hb dX7_wantBy_1 (by decide) ?_
  refine lv_icmp_ne (tgt := 8) hx hb dX7_wantBy_2 (by decide) (fun c1 => ?_) (fun c1 => ?_)
  · replace h := gx_f c1 h
    refine lv_iload_n hx hb dX7_wantBy_8 rfl (lv_at hl 0 rfl) ?_
    refine lv_bipush (v := 40) hx hb dX7_wantBy_9 (by decide) ?_
    refine lv_icmp_ge (tgt := 17) hx hb dX7_wantBy_11 (by decide) (fun c2 => ?_) (fun c2 => ?_)
    · replace h := gx_t c2 h
      refine lv_iload_n hx hb dX7_wantBy_17 rfl (lv_at hl 0 rfl) ?_
      refine lv_bipush (v := 60) hx hb dX7_wantBy_18 (by decide) ?_
      refine lv_icmp_ge (tgt := 26) hx hb dX7_wantBy_20 (by decide) (fun c3 => ?_) (fun c3 => ?_)
      · replace h := gx_t c3 h
        refine lv_iload_n hx hb dX7_wantBy_26 rfl (lv_at hl 0 rfl) ?_
        refine lv_bipush (v := 80) hx hb dX7_wantBy_27 (by decide) ?_
        refine lv_icmp_ge (tgt := 37) hx hb dX7_wantBy_29 (by decide) (fun c4 => ?_) (fun c4 => ?_)
        · replace h := gx_t c4 h
          refine lv_bipush (v := 120) hx hb dX7_wantBy_37 (by decide) ?_
          cases h
          exact cc_ret hx hb hr rfl hQ hK hP hD hS rfl dX7_wantBy_39 hlocks
        · replace h := gx_f c4 h
          refine lv_bipush (v := 80) hx hb dX7_wantBy_32 (by decide) ?_
          refine lv_goto (tgt := 39) hx hb dX7_wantBy_34 (by decide) ?_
          cases h
          exact cc_ret hx hb hr rfl hQ hK hP hD hS rfl dX7_wantBy_39 hlocks
      · replace h := gx_f c3 h
        refine lv_bipush (v := 60) hx hb dX7_wantBy_23 (by decide) ?_
        cases h
        exact cc_ret hx hb hr rfl hQ hK hP hD hS rfl dX7_wantBy_25 hlocks
    · replace h := gx_f c2 h
      refine lv_bipush (v := 40) hx hb dX7_wantBy_14 (by decide) ?_
      cases h
      exact cc_ret hx hb hr rfl hQ hK hP hD hS rfl dX7_wantBy_16 hlocks
  · replace h := gx_t c1 h
    refine lv_bipush (v := 60) hx hb dX7_wantBy_5 (by decide) ?_
    cases h
    exact cc_ret hx hb hr rfl hQ hK hP hD hS rfl dX7_wantBy_7 hlocks

def rX7_wantAt : Room := { frames := 1, cells := 0, slots := 0, locals := 22 }
set_option maxHeartbeats 4000000 in
set_option maxRecDepth 100000 in
theorem k_X7_wantAt (l : Launch) (D : va_G) (cI cZ : ClassId) (ad : Nat → Nat) (u : GS) (p0 : Int32) (p1 : Int32) {r : Int32} (h : g_X7_wantAt u p0 p1 = some r) : MI l yX7_wantAt (wm yX7_wantAt cX7_wantAt 4 (some .int)) rX7_wantAt D [(cI, .int), (cZ, .boolean)] (wC cI cZ ad u) (wC cI cZ ad u) [.ref (ad 3), .int p0, .int p1] r := by
  intro sz
  refine Met.ofW (cc := cX7_wantAt) (maxL := 4) (ret := (some .int)) (by decide) rfl ?_
  intro p e s m args below meth c s₁ B hml hv
  obtain ⟨rfl, hsz, hP, hK, hD0, hZ⟩ := hv
  have hx := B.exec
  have hb := B.bytes
  have hr := B.returns
  have hts : ∀ w ∈ Wall, w.before _ s = true := fun w hw => atoms_spec (ws := wm yX7_wantAt cX7_wantAt 4 (some .int)) B.pre w (List.mem_cons_of_mem _ hw)
  have hown : s.vm.findClass RX7 = some m.cls := findClass_of_methodNamed B.named
  have hlocks := B.notSynchronized
  subst hsz
  have hD := hD0.self (sz := s.heap.size)
  generalize hAe : va_A (wC cI cZ ad u) s.heap.size = A at hD hZ ⊢
  have hA : ∀ q : Nat, s.heap.size ≤ q → A q := fun q h => by rw [← hAe]; exact Or.inr h
  have hS : va_S A s.heap s.heap [] := va_S.rf
  obtain ⟨t3, hz_t3, ht_t3⟩ := hZ.2.2.2.1
  have hf9 := hts _ mw_102
  have hf21 := hts _ mw_107
  have hf47 := hts _ mw_769
  have hl := lv_entry ([.ref (ad 3), .int p0, .int p1]) (n := 4) (Nat.le_of_ble_eq_true rfl)
  rw [lg_entry_eq]
  generalize (lg_sl ([.ref (ad 3), .int p0, .int p1]) ++ List.replicate (4 - (lg_sl ([.ref (ad 3), .int p0, .int p1])).length) Slot.unset).toArray = ls at hl ⊢
  replace hl : lv_has ls 4 [(0, .ref (ad 3)), (1, .int p0), (2, .int p1)] := hl
  refine w_gen (fun Q hQ => ?_)
  refine lv_aload_n hx hb dX7_wantAt_0 rfl (lv_at hl 0 rfl) ?_
  refine va_get (D := D) (ci := 7) (v := .ref (ad 15)) (C := RX7) (T := TX7) (N := 4) hx hb hts iX7 hown hK hP 3 rfl rfl 0 (by decide) hf9 (fun _ h9 => h9) rfl dX7_wantAt_1 ?_
  refine lv_iload_n hx hb dX7_wantAt_4 rfl (lv_at hl 1 rfl) ?_
  obtain ⟨b1, h⟩ := gx_in h
  refine va_iald (D := D) hx hb hK hP 15 0 rfl rfl b1 dX7_wantAt_5 ?_
  refine lv_iconst (v := (-1)) hx hb dX7_wantAt_6 (by decide) ?_
  refine lv_icmp_eq (tgt := 17) hx hb dX7_wantAt_7 (by decide) (fun c2 => ?_) (fun c2 => ?_)
  · replace h := gx_t c2 h
    refine lv_aload_n hx hb dX7_wantAt_17 rfl (lv_at hl 0 rfl) ?_
    refine va_get (D := D) (ci := 7) (v := .int (cS_weather u)) (C := RX7) (T := TX7) (N := 4) hx hb hts iX7 hown hK hP 3 rfl rfl 3 (by decide) hf21 (fun _ h9 => h9) rfl dX7_wantAt_18 ?_
    refine lv_iconst (v := 0) hx hb dX7_wantAt_21 (by decide) ?_
    refine lv_iconst (v := 3) hx hb dX7_wantAt_22 (by decide) ?_
    obtain ⟨y3, hc4, h⟩ := gx_bind h
    refine cc_iSN (As := [.int (cS_weather u), .int (0 : Int32), .int (3 : Int32)]) (rest := []) ⟨hx, hb, hml, hown, hts⟩ (k_X9_isWithin l D cI cZ ad u (cS_weather u) (0 : Int32) (3 : Int32) hc4) ⟨va_cnB 3 hts (gwM mw_244) rfl rfl rfl (hZ.1 ("RedcrossGantry$SpeedSigns", 44, yX9_isWithin) (by decide +kernel)) (hts _ mw_19) (by decide +kernel) ⟨Nat.le_of_ble_eq_true rfl, Nat.le_of_ble_eq_true rfl⟩, hts _ mw_243, trivial⟩ hK hP hD hS hA hZ rfl hl.1 rfl (Nat.le_of_ble_eq_true rfl) dX7_wantAt_23 ⟨Nat.zero_le _, Nat.zero_le _⟩ (fun H locs hP hD hS => ?_)
    obtain ⟨j42_5, ej42_5, h⟩ := gx_let h
    have hj42_5 : ∀ (z0_42 : Int32) (H : Heap) (locs : List Loc) (ls : Array Slot), j42_5 z0_42 = some r → va_P D vwCl (wC cI cZ ad u) H → va_D A (wC cI cZ ad u) → va_S A s.heap H locs → lv_has ls 4 [(2, .int p1)] → W p l e rX7_wantAt s m ([.ref (ad 3), .int p0, .int p1] : List Value).toArray below meth c H locs 0 0 Q (F0 m 42 ls [.int z0_42]) := by
      intro z0_42 H locs ls h hP hD hS hl
      subst ej42_5
      refine lv_istore_n (lv' := [(3, .int z0_42), (2, .int p1)]) hx hb dX7_wantAt_42 rfl hl (by decide) rfl (fun ls hl => ?_)
      refine lv_iload_n hx hb dX7_wantAt_43 rfl (lv_at hl 1 rfl) ?_
      obtain ⟨y6, hc7, h⟩ := gx_bind h
      refine cc_iS (As := [.int p1]) (rest := []) ⟨hx, hb, hml, hown, hts⟩ (k_X7_wantBy l D cI cZ ad u p1 hc7) (va_cwS 1 hts (gwS mw_771 mw_772 mw_22 mw_773) rfl rfl rfl (by decide +kernel) ⟨Nat.le_of_ble_eq_true rfl, Nat.le_of_ble_eq_true rfl⟩) hK hP hD hS hA hZ rfl hl.1 rfl (Nat.le_of_ble_eq_true rfl) dX7_wantAt_44 ⟨Nat.zero_le _, Nat.zero_le _⟩ (fun H locs hP hD hS => ?_)
      refine lv_iload_n hx hb dX7_wantAt_47 rfl (lv_at hl 0 rfl) ?_
      refine va_mmin hx hb (hml.trans hl.1.symm) hown (hts _ mw_774) (hts _ mw_676) (hts _ mw_29) (hts _ mw_677) (Nat.le_of_ble_eq_true rfl) (Nat.le_of_ble_eq_true rfl) (Nat.zero_le _) (Nat.zero_le _) dX7_wantAt_48 ?_
      cases h
      exact cc_ret hx hb hr rfl hQ hK hP hD hS rfl dX7_wantAt_51 hlocks
    refine lv_if_eq (tgt := 40) hx hb dX7_wantAt_26 (by decide) (fun c8 => ?_) (fun c8 => ?_)
    · replace h := gx_t c8 h
      refine lv_bipush (v := 120) hx hb dX7_wantAt_40 (by decide) ?_
      exact hj42_5 (120 : Int32) _ _ _ h hP hD hS (lv_sub hl [2] rfl)
    · replace h := gx_f c8 h
      refine va_gets hx hb hz_t3 hS hown hf47 (fun _ h9 => h9) dX7_wantAt_29 ?_
      refine lv_aload_n hx hb dX7_wantAt_32 rfl (lv_at hl 0 rfl) ?_
      refine va_get (D := D) (ci := 7) (v := .int (cS_weather u)) (C := RX7) (T := TX7) (N := 4) hx hb hts iX7 hown hK hP 3 rfl rfl 3 (by decide) hf21 (fun _ h9 => h9) rfl dX7_wantAt_33 ?_
      obtain ⟨b9, h⟩ := gx_in h
      refine va_ti hx hb ht_t3 hS b9 rfl dX7_wantAt_36 ?_
      refine lv_goto (tgt := 42) hx hb dX7_wantAt_37 (by decide) ?_
      exact hj42_5 (wlF (cS_weather u).toNatClampNeg) _ _ _ h hP hD hS (lv_sub hl [2] rfl)
  · replace h := gx_f c2 h
    refine lv_aload_n hx hb dX7_wantAt_10 rfl (lv_at hl 0 rfl) ?_
    refine va_get (D := D) (ci := 7) (v := .ref (ad 15)) (C := RX7) (T := TX7) (N := 4) hx hb hts iX7 hown hK hP 3 rfl rfl 0 (by decide) hf9 (fun _ h9 => h9) rfl dX7_wantAt_11 ?_
    refine lv_iload_n hx hb dX7_wantAt_14 rfl (lv_at hl 1 rfl) ?_
    obtain ⟨b10, h⟩ := gx_in h
    refine va_iald (D := D) hx hb hK hP 15 0 rfl rfl b10 dX7_wantAt_15 ?_
    cases h
    exact cc_ret hx hb hr rfl hQ hK hP hD hS rfl dX7_wantAt_16 hlocks

def rX7_staysBelow : Room := { frames := 0, cells := 0, slots := 0, locals := 0 }
set_option maxHeartbeats 4000000 in
set_option maxRecDepth 100000 in
theorem k_X7_staysBelow (l : Launch) (D : va_G) (cI cZ : ClassId) (ad : Nat → Nat) (u : GS) (p0 : Int32) (p1 : Int32) (p2 : Int32) {r : Int32} (h : g_X7_staysBelow u p0 p1 p2 = some r) : MI l yX7_staysBelow (wm yX7_staysBelow cX7_staysBelow 4 (some .boolean)) rX7_staysBelow D [(cI, .int), (cZ, .boolean)] (wC cI cZ ad u) (wC cI cZ ad u) [.ref (ad 3), .int p0, .int p1, .int p2] r := by
  intro sz
  refine Met.ofW (cc := cX7_staysBelow) (maxL := 4) (ret := (some .boolean)) (by decide) rfl ?_
  intro p e s m args below meth c s₁ B hml hv
  obtain ⟨rfl, hsz, hP, hK, hD0, hZ⟩ := hv
  have hx := B.exec
  have hb := B.bytes
  have hr := B.returns
  have hts : ∀ w ∈ Wall, w.before _ s = true := fun w hw => atoms_spec (ws := wm yX7_staysBelow cX7_staysBelow 4 (some .boolean)) B.pre w (List.mem_cons_of_mem _ hw)
  have hown : s.vm.findClass RX7 = some m.cls := findClass_of_methodNamed B.named
  have hlocks := B.notSynchronized
  subst hsz
  have hD := hD0.self (sz := s.heap.size)
  generalize hAe : va_A (wC cI cZ ad u) s.heap.size = A at hD hZ ⊢
  have hA : ∀ q : Nat, s.heap.size ≤ q → A q := fun q h => by rw [← hAe]; exact Or.inr h
  have hS : va_S A s.heap s.heap [] := va_S.rf
  have hf9 := hts _ mw_102
  have hf15 := hts _ mw_104
  have hf18 := hts _ mw_106
  have hl := lv_entry ([.ref (ad 3), .int p0, .int p1, .int p2]) (n := 4) (Nat.le_of_ble_eq_true rfl)
  rw [lg_entry_eq]
  generalize (lg_sl ([.ref (ad 3), .int p0, .int p1, .int p2]) ++ List.replicate (4 - (lg_sl ([.ref (ad 3), .int p0, .int p1, .int p2])).length) Slot.unset).toArray = ls at hl ⊢
  replace hl : lv_has ls 4 [(0, .ref (ad 3)), (1, .int p0), (2, .int p1), (3, .int p2)] := hl
  refine w_gen (fun Q hQ => ?_)
  refine lv_aload_n hx hb dX7_staysBelow_0 rfl (lv_at hl 0 rfl) ?_
  refine va_get (D := D) (ci := 7) (v := .ref (ad 15)) (C := RX7) (T := TX7) (N := 4) hx hb hts iX7 hown hK hP 3 rfl rfl 0 (by decide) hf9 (fun _ h9 => h9) rfl dX7_staysBelow_1 ?_
  refine lv_iload_n hx hb dX7_staysBelow_4 rfl (lv_at hl 2 rfl) ?_
  obtain ⟨b1, h⟩ := gx_in h
  refine va_iald (D := D) hx hb hK hP 15 0 rfl rfl b1 dX7_staysBelow_5 ?_
  refine lv_iconst (v := (-1)) hx hb dX7_staysBelow_6 (by decide) ?_
  refine lv_icmp_ne (tgt := 36) hx hb dX7_staysBelow_7 (by decide) (fun c2 => ?_) (fun c2 => ?_)
  · replace h := gx_f c2 h
    refine lv_iconst (v := 0) hx hb dX7_staysBelow_36 (by decide) ?_
    cases h
    exact cc_ret hx hb hr rfl hQ hK hP hD hS rfl dX7_staysBelow_37 hlocks
  · replace h := gx_t c2 h
    refine lv_iload_n hx hb dX7_staysBelow_10 rfl (lv_at hl 1 rfl) ?_
    refine lv_aload_n hx hb dX7_staysBelow_11 rfl (lv_at hl 0 rfl) ?_
    refine va_get (D := D) (ci := 7) (v := .ref (ad 16)) (C := RX7) (T := TX7) (N := 4) hx hb hts iX7 hown hK hP 3 rfl rfl 1 (by decide) hf15 (fun _ h9 => h9) rfl dX7_staysBelow_12 ?_
    refine lv_iload_n hx hb dX7_staysBelow_15 rfl (lv_at hl 2 rfl) ?_
    obtain ⟨b3, h⟩ := gx_in h
    refine va_iald (D := D) hx hb hK hP 16 0 rfl rfl b3 dX7_staysBelow_16 ?_
    refine lv_icmp_le (tgt := 36) hx hb dX7_staysBelow_17 (by decide) (fun c4 => ?_) (fun c4 => ?_)
    · replace h := gx_t c4 h
      refine lv_iconst (v := 0) hx hb dX7_staysBelow_36 (by decide) ?_
      cases h
      exact cc_ret hx hb hr rfl hQ hK hP hD hS rfl dX7_staysBelow_37 hlocks
    · replace h := gx_f c4 h
      refine lv_iload_n hx hb dX7_staysBelow_20 rfl (lv_at hl 3 rfl) ?_
      refine lv_aload_n hx hb dX7_staysBelow_21 rfl (lv_at hl 0 rfl) ?_
      refine va_get (D := D) (ci := 7) (v := .ref (ad 17)) (C := RX7) (T := TX7) (N := 4) hx hb hts iX7 hown hK hP 3 rfl rfl 2 (by decide) hf18 (fun _ h9 => h9) rfl dX7_staysBelow_22 ?_
      refine lv_iload_n hx hb dX7_staysBelow_25 rfl (lv_at hl 2 rfl) ?_
      obtain ⟨b5, h⟩ := gx_in h
      refine va_iald (D := D) hx hb hK hP 17 0 rfl rfl b5 dX7_staysBelow_26 ?_
      refine lv_isub hx hb dX7_staysBelow_27 ?_
      refine lv_iconst (v := 3) hx hb dX7_staysBelow_28 (by decide) ?_
      refine lv_icmp_ge (tgt := 36) hx hb dX7_staysBelow_29 (by decide) (fun c6 => ?_) (fun c6 => ?_)
      · replace h := gx_t c6 h
        refine lv_iconst (v := 0) hx hb dX7_staysBelow_36 (by decide) ?_
        cases h
        exact cc_ret hx hb hr rfl hQ hK hP hD hS rfl dX7_staysBelow_37 hlocks
      · replace h := gx_f c6 h
        refine lv_iconst (v := 1) hx hb dX7_staysBelow_32 (by decide) ?_
        refine lv_goto (tgt := 37) hx hb dX7_staysBelow_33 (by decide) ?_
        cases h
        exact cc_ret hx hb hr rfl hQ hK hP hD hS rfl dX7_staysBelow_37 hlocks

def rX7_setAnew : Room := { frames := 4, cells := 0, slots := 0, locals := 94 }
set_option maxHeartbeats 4000000 in
set_option maxRecDepth 100000 in
theorem k_X7_setAnew (l : Launch) (D : va_G) (cI cZ : ClassId) (ad : Nat → Nat) (u : GS) (p0 : Int32) {w' : GS} (h : g_X7_setAnew u p0 = some w') : MV l yX7_setAnew (wm yX7_setAnew cX7_setAnew 7 none) rX7_setAnew D [(cI, .int), (cZ, .boolean)] (wC cI cZ ad u) (wC cI cZ ad w') [.ref (ad 3), .int p0, .ref (ad 2), .ref (ad 1)] := by
  intro sz
  refine Met.ofW (cc := cX7_setAnew) (maxL := 7) (ret := none) (by decide) rfl ?_
  intro p e s m args below meth c s₁ B hml hv
  obtain ⟨rfl, hsz, hP, hK, hD0, hZ⟩ := hv
  have hx := B.exec
  have hb := B.bytes
  have hr := B.returns
  have hts : ∀ w ∈ Wall, w.before _ s = true := fun w hw => atoms_spec (ws := wm yX7_setAnew cX7_setAnew 7 none) B.pre w (List.mem_cons_of_mem _ hw)
  have hown : s.vm.findClass RX7 = some m.cls := findClass_of_methodNamed B.named
  have hlocks := B.notSynchronized
  subst hsz
  have hD := hD0.self (sz := s.heap.size)
  generalize hAe : va_A (wC cI cZ ad u) s.heap.size = A at hD hZ ⊢
  have hA : ∀ q : Nat, s.heap.size ≤ q → A q := fun q h => by rw [← hAe]; exact Or.inr h
  have hS : va_S A s.heap s.heap [] := va_S.rf
  have hf15 := hts _ mw_104
  have hf18 := hts _ mw_106
  have hl := lv_entry ([.ref (ad 3), .int p0, .ref (ad 2), .ref (ad 1)]) (n := 7) (Nat.le_of_ble_eq_true rfl)
  rw [lg_entry_eq]
  generalize (lg_sl ([.ref (ad 3), .int p0, .ref (ad 2), .ref (ad 1)]) ++ List.replicate (7 - (lg_sl ([.ref (ad 3), .int p0, .ref (ad 2), .ref (ad 1)])).length) Slot.unset).toArray = ls at hl ⊢
  replace hl : lv_has ls 7 [(0, .ref (ad 3)), (1, .int p0), (2, .ref (ad 2)), (3, .ref (ad 1))] := hl
  refine w_gen (fun Q hQ => ?_)
  refine lv_bipush (v := 11) hx hb dX7_setAnew_0 (by decide) ?_
  refine lv_istore (lv' := [(4, .int (11 : Int32)), (0, .ref (ad 3)), (1, .int p0), (2, .ref (ad 2)), (3, .ref (ad 1))]) hx hb dX7_setAnew_2 hl (by decide) rfl (fun ls hl => ?_)
  have hL4 : ∀ (k : GS → Option (GS)) (hk : ∀ (w4 : GS) (H : Heap) (locs : List Loc) (ls : Array Slot), k w4 = some w' → va_P D vwCl (wC cI cZ ad w4) H → va_D A (wC cI cZ ad w4) → va_S A s.heap H locs → lv_has ls 7 [] → W p l e rX7_setAnew s m ([.ref (ad 3), .int p0, .ref (ad 2), .ref (ad 1)] : List Value).toArray below meth c H locs 0 0 Q (F0 m 113 ls [])) (n : Nat) (x4_4 : Int32) (w4 : GS) (H : Heap) (locs : List Loc) (ls : Array Slot), lp_X7_setAnew_4 p0 k n x4_4 w4 = some w' → va_P D vwCl (wC cI cZ ad w4) H → va_D A (wC cI cZ ad w4) → va_S A s.heap H locs → lv_has ls 7 [(0, .ref (ad 3)), (1, .int p0), (2, .ref (ad 2)), (3, .ref (ad 1)), (4, .int x4_4)] → W p l e rX7_setAnew s m ([.ref (ad 3), .int p0, .ref (ad 2), .ref (ad 1)] : List Value).toArray below meth c H locs 0 0 Q (F0 m 4 ls []) := by
    intro k hk n
    induction n with
    | zero =>
      intro x4_4 w4 H locs ls h
      rw [lp_X7_setAnew_4] at h
      cases h
    | succ n ih =>
      intro x4_4 w4 H locs ls h hP hD hS hl
      rw [lp_X7_setAnew_4] at h
      refine lv_iload hx hb dX7_setAnew_4 (lv_at hl 4 rfl) ?_
      refine lv_if_lt (tgt := 113) hx hb dX7_setAnew_6 (by decide) (fun c1 => ?_) (fun c1 => ?_)
      · replace h := gx_t c1 h
        exact hk w4 _ _ _ h hP hD hS (lv_sub hl [] rfl)
      · replace h := gx_f c1 h
        refine lv_aload_n hx hb dX7_setAnew_9 rfl (lv_at hl 0 rfl) ?_
        refine lv_iload hx hb dX7_setAnew_10 (lv_at hl 4 rfl) ?_
        refine lv_aload_n hx hb dX7_setAnew_12 rfl (lv_at hl 2 rfl) ?_
        refine lv_iload hx hb dX7_setAnew_13 (lv_at hl 4 rfl) ?_
        refine lv_aload_n hx hb dX7_setAnew_15 rfl (lv_at hl 3 rfl) ?_
        obtain ⟨y2, hc3, h⟩ := gx_bind h
        refine cc_iV (As := [.int x4_4, .ref (ad 1)]) (rest := [.int x4_4, .ref (ad 3)]) ⟨hx, hb, hml, hown, hts⟩ (k_X1_beliefAt l D cI cZ ad w4 x4_4 hc3) (cwV 2 hts (gwV mw_763 mw_409 mw_410 mw_21 mw_411) rfl rfl rfl (by decide +kernel) ⟨Nat.le_of_ble_eq_true rfl, Nat.le_of_ble_eq_true rfl⟩) hK hP hD hS hA hZ (ci := 1) (q0 := 2) rfl rfl rfl hl.1 rfl (Nat.le_of_ble_eq_true rfl) dX7_setAnew_16 ⟨Nat.zero_le _, Nat.zero_le _⟩ (fun H locs hP hD hS => ?_)
        obtain ⟨y4, hc5, h⟩ := gx_bind h
        refine cc_iV (As := [.int x4_4, .int y2]) (rest := []) ⟨hx, hb, hml, hown, hts⟩ (k_X7_wantAt l D cI cZ ad w4 x4_4 y2 hc5) (cwV 2 hts (gwV mw_764 mw_766 mw_16 mw_22 mw_767) rfl rfl rfl (by decide +kernel) ⟨Nat.le_of_ble_eq_true rfl, Nat.le_of_ble_eq_true rfl⟩) hK hP hD hS hA hZ (ci := 7) (q0 := 3) rfl rfl rfl hl.1 rfl (Nat.le_of_ble_eq_true rfl) dX7_setAnew_19 ⟨Nat.zero_le _, Nat.zero_le _⟩ (fun H locs hP hD hS => ?_)
        refine lv_istore (lv' := [(5, .int y4), (0, .ref (ad 3)), (1, .int p0), (2, .ref (ad 2)), (3, .ref (ad 1)), (4, .int x4_4)]) hx hb dX7_setAnew_22 hl (by decide) rfl (fun ls hl => ?_)
        refine lv_aload_n hx hb dX7_setAnew_24 rfl (lv_at hl 1 rfl) ?_
        refine lv_iload hx hb dX7_setAnew_25 (lv_at hl 0 rfl) ?_
        refine lv_iload hx hb dX7_setAnew_27 (lv_at hl 5 rfl) ?_
        refine lv_iload_n hx hb dX7_setAnew_29 rfl (lv_at hl 2 rfl) ?_
        obtain ⟨y6, hc7, h⟩ := gx_bind h
        refine cc_iV (As := [.int y4, .int x4_4, .int p0]) (rest := []) ⟨hx, hb, hml, hown, hts⟩ (k_X7_staysBelow l D cI cZ ad w4 y4 x4_4 p0 hc7) (cwV 3 hts (gwV mw_775 mw_777 mw_17 mw_22 mw_778) rfl rfl rfl (by decide +kernel) ⟨Nat.le_of_ble_eq_true rfl, Nat.le_of_ble_eq_true rfl⟩) hK hP hD hS hA hZ (ci := 7) (q0 := 3) rfl rfl rfl hl.1 rfl (Nat.le_of_ble_eq_true rfl) dX7_setAnew_30 ⟨Nat.zero_le _, Nat.zero_le _⟩ (fun H locs hP hD hS => ?_)
        obtain ⟨j48_8, ej48_8, h⟩ := gx_let h
        have hj48_8 : ∀ (z0_48 : Int32) (H : Heap) (locs : List Loc) (ls : Array Slot), j48_8 z0_48 = some w' → va_P D vwCl (wC cI cZ ad w4) H → va_D A (wC cI cZ ad w4) → va_S A s.heap H locs → lv_has ls 7 [(0, .ref (ad 3)), (1, .int p0), (2, .ref (ad 2)), (3, .ref (ad 1)), (4, .int x4_4)] → W p l e rX7_setAnew s m ([.ref (ad 3), .int p0, .ref (ad 2), .ref (ad 1)] : List Value).toArray below meth c H locs 0 0 Q (F0 m 48 ls [.int z0_48]) := by
          intro z0_48 H locs ls h hP hD hS hl
          subst ej48_8
          refine lv_istore (lv' := [(6, .int z0_48), (0, .ref (ad 3)), (1, .int p0), (2, .ref (ad 2)), (3, .ref (ad 1)), (4, .int x4_4)]) hx hb dX7_setAnew_48 hl (by decide) rfl (fun ls hl => ?_)
          refine lv_iload hx hb dX7_setAnew_50 (lv_at hl 5 rfl) ?_
          refine lv_iconst (v := 1) hx hb dX7_setAnew_52 (by decide) ?_
          refine lv_iadd hx hb dX7_setAnew_53 ?_
          refine lv_bipush (v := 12) hx hb dX7_setAnew_54 (by decide) ?_
          obtain ⟨j78_9, ej78_9, h⟩ := gx_let h
          have hj78_9 : ∀ (x6_78 : Int32) (H : Heap) (locs : List Loc) (ls : Array Slot), j78_9 x6_78 = some w' → va_P D vwCl (wC cI cZ ad w4) H → va_D A (wC cI cZ ad w4) → va_S A s.heap H locs → lv_has ls 7 [(0, .ref (ad 3)), (1, .int p0), (2, .ref (ad 2)), (3, .ref (ad 1)), (4, .int x4_4), (6, .int x6_78)] → W p l e rX7_setAnew s m ([.ref (ad 3), .int p0, .ref (ad 2), .ref (ad 1)] : List Value).toArray below meth c H locs 0 0 Q (F0 m 78 ls []) := by
            intro x6_78 H locs ls h hP hD hS hl
            subst ej78_9
            refine lv_iload hx hb dX7_setAnew_78 (lv_at hl 5 rfl) ?_
            refine lv_aload_n hx hb dX7_setAnew_80 rfl (lv_at hl 0 rfl) ?_
            refine va_get (D := D) (ci := 7) (v := .ref (ad 16)) (C := RX7) (T := TX7) (N := 4) hx hb hts iX7 hown hK hP 3 rfl rfl 1 (by decide) hf15 (fun _ h9 => h9) rfl dX7_setAnew_81 ?_
            refine lv_iload hx hb dX7_setAnew_84 (lv_at hl 4 rfl) ?_
            obtain ⟨b10, h⟩ := gx_in h
            refine va_iald (D := D) hx hb hK hP 16 0 rfl rfl b10 dX7_setAnew_86 ?_
            obtain ⟨j98_11, ej98_11, h⟩ := gx_let h
            have hj98_11 : ∀ (w98 : GS) (H : Heap) (locs : List Loc) (ls : Array Slot), j98_11 w98 = some w' → va_P D vwCl (wC cI cZ ad w98) H → va_D A (wC cI cZ ad w98) → va_S A s.heap H locs → lv_has ls 7 [(0, .ref (ad 3)), (1, .int p0), (2, .ref (ad 2)), (3, .ref (ad 1)), (4, .int x4_4), (6, .int x6_78)] → W p l e rX7_setAnew s m ([.ref (ad 3), .int p0, .ref (ad 2), .ref (ad 1)] : List Value).toArray below meth c H locs 0 0 Q (F0 m 98 ls []) := by
              intro w98 H locs ls h hP hD hS hl
              subst ej98_11
              refine lv_aload_n hx hb dX7_setAnew_98 rfl (lv_at hl 0 rfl) ?_
              refine va_get (D := D) (ci := 7) (v := .ref (ad 16)) (C := RX7) (T := TX7) (N := 4) hx hb hts iX7 hown hK hP 3 rfl rfl 1 (by decide) hf15 (fun _ h9 => h9) rfl dX7_setAnew_99 ?_
              refine lv_iload hx hb dX7_setAnew_102 (lv_at hl 4 rfl) ?_
              refine lv_iload hx hb dX7_setAnew_104 (lv_at hl 5 rfl) ?_
              obtain ⟨b12, h⟩ := gx_in h
              refine va_iast (D := D) hx hb hK hP hD hS 16 0 rfl rfl b12 dX7_setAnew_106 (fun H locs hP hD hS => ?_)
              obtain ⟨u13, eu13, h⟩ := gx_let h
              replace hP : va_P D vwCl (wC cI cZ ad u13) H := by rw [← eu13]; exact hP
              replace hD : va_D A (wC cI cZ ad u13) := by rw [← eu13]; exact hD
              obtain ⟨v14, ev14, h⟩ := gx_let h
              refine lv_iinc (v := v14) (lv' := [(4, .int v14), (0, .ref (ad 3)), (1, .int p0), (2, .ref (ad 2)), (3, .ref (ad 1)), (6, .int x6_78)]) hx hb dX7_setAnew_107 hl (k := 4) rfl (by rw [← ev14]; rfl) (by decide) rfl (fun ls hl => ?_)
              refine lv_goto (tgt := 4) hx hb dX7_setAnew_110 (by decide) ?_
              exact ih v14 u13 _ _ _ h hP hD hS (lv_sub hl [1, 2, 3, 4, 0] rfl)
            refine lv_icmp_ge (tgt := 98) hx hb dX7_setAnew_87 (by decide) (fun c15 => ?_) (fun c15 => ?_)
            · replace h := gx_t c15 h
              exact hj98_11 w4 _ _ _ h hP hD hS (lv_sub hl [0, 1, 2, 3, 4, 5] rfl)
            · replace h := gx_f c15 h
              refine lv_aload_n hx hb dX7_setAnew_90 rfl (lv_at hl 0 rfl) ?_
              refine va_get (D := D) (ci := 7) (v := .ref (ad 17)) (C := RX7) (T := TX7) (N := 4) hx hb hts iX7 hown hK hP 3 rfl rfl 2 (by decide) hf18 (fun _ h9 => h9) rfl dX7_setAnew_91 ?_
              refine lv_iload hx hb dX7_setAnew_94 (lv_at hl 4 rfl) ?_
              refine lv_iload_n hx hb dX7_setAnew_96 rfl (lv_at hl 1 rfl) ?_
              obtain ⟨b16, h⟩ := gx_in h
              refine va_iast (D := D) hx hb hK hP hD hS 17 0 rfl rfl b16 dX7_setAnew_97 (fun H locs hP hD hS => ?_)
              obtain ⟨u17, eu17, h⟩ := gx_let h
              replace hP : va_P D vwCl (wC cI cZ ad u17) H := by rw [← eu17]; exact hP
              replace hD : va_D A (wC cI cZ ad u17) := by rw [← eu17]; exact hD
              exact hj98_11 u17 _ _ _ h hP hD hS (lv_sub hl [0, 1, 2, 3, 4, 5] rfl)
          refine lv_icmp_ge (tgt := 78) hx hb dX7_setAnew_56 (by decide) (fun c18 => ?_) (fun c18 => ?_)
          · replace h := gx_t c18 h
            exact hj78_9 z0_48 _ _ _ h hP hD hS (lv_sub hl [1, 2, 3, 4, 5, 0] rfl)
          · replace h := gx_f c18 h
            refine lv_iload hx hb dX7_setAnew_59 (lv_at hl 0 rfl) ?_
            refine lv_aload_n hx hb dX7_setAnew_61 rfl (lv_at hl 1 rfl) ?_
            refine va_get (D := D) (ci := 7) (v := .ref (ad 16)) (C := RX7) (T := TX7) (N := 4) hx hb hts iX7 hown hK hP 3 rfl rfl 1 (by decide) hf15 (fun _ h9 => h9) rfl dX7_setAnew_62 ?_
            refine lv_iload hx hb dX7_setAnew_65 (lv_at hl 5 rfl) ?_
            refine lv_iconst (v := 1) hx hb dX7_setAnew_67 (by decide) ?_
            refine lv_iadd hx hb dX7_setAnew_68 ?_
            obtain ⟨b19, h⟩ := gx_in h
            refine va_iald (D := D) hx hb hK hP 16 0 rfl rfl b19 dX7_setAnew_69 ?_
            refine lv_bipush (v := 20) hx hb dX7_setAnew_70 (by decide) ?_
            refine lv_iadd hx hb dX7_setAnew_72 ?_
            refine va_mmin hx hb (hml.trans hl.1.symm) hown (hts _ mw_774) (hts _ mw_676) (hts _ mw_29) (hts _ mw_677) (Nat.le_of_ble_eq_true rfl) (Nat.le_of_ble_eq_true rfl) (Nat.zero_le _) (Nat.zero_le _) dX7_setAnew_73 ?_
            obtain ⟨v20, ev20, h⟩ := gx_let h
            refine lv_topn ev20 ?_
            refine lv_istore (lv' := [(6, .int v20), (0, .ref (ad 3)), (1, .int p0), (2, .ref (ad 2)), (3, .ref (ad 1)), (4, .int x4_4)]) hx hb dX7_setAnew_76 hl (by decide) rfl (fun ls hl => ?_)
            exact hj78_9 v20 _ _ _ h hP hD hS (lv_sub hl [1, 2, 3, 4, 5, 0] rfl)
        refine lv_if_eq (tgt := 46) hx hb dX7_setAnew_33 (by decide) (fun c21 => ?_) (fun c21 => ?_)
        · replace h := gx_t c21 h
          refine lv_iload hx hb dX7_setAnew_46 (lv_at hl 0 rfl) ?_
          exact hj48_8 y4 _ _ _ h hP hD hS (lv_sub hl [1, 2, 3, 4, 5] rfl)
        · replace h := gx_f c21 h
          refine lv_aload_n hx hb dX7_setAnew_36 rfl (lv_at hl 1 rfl) ?_
          refine va_get (D := D) (ci := 7) (v := .ref (ad 16)) (C := RX7) (T := TX7) (N := 4) hx hb hts iX7 hown hK hP 3 rfl rfl 1 (by decide) hf15 (fun _ h9 => h9) rfl dX7_setAnew_37 ?_
          refine lv_iload hx hb dX7_setAnew_40 (lv_at hl 5 rfl) ?_
          obtain ⟨b22, h⟩ := gx_in h
          refine va_iald (D := D) hx hb hK hP 16 0 rfl rfl b22 dX7_setAnew_42 ?_
          refine lv_goto (tgt := 48) hx hb dX7_setAnew_43 (by decide) ?_
          exact hj48_8 (cS_shown w4 x4_4.toNatClampNeg) _ _ _ h hP hD hS (lv_sub hl [1, 2, 3, 4, 5] rfl)
  refine hL4 _ (fun w4 H locs ls h hP hD hS hl => ?_) FU (11 : Int32) u _ _ _ h hP hD hS (lv_sub hl [1, 2, 3, 4, 0] rfl)
  cases h
  exact cc_vret hx hb hr hQ hK hP hD hS dX7_setAnew_113 hlocks

def rX5_keep : Room := { frames := 2, cells := 0, slots := 0, locals := 43 }
set_option maxHeartbeats 4000000 in
set_option maxRecDepth 100000 in
theorem k_X5_keep (l : Launch) (D : va_G) (cI cZ : ClassId) (ad : Nat → Nat) (u : GS) (p0 : Int32) {w' : GS} (h : g_X5_keep u p0 = some w') : MV l yX5_keep (wm yX5_keep cX5_keep 7 none) rX5_keep D [(cI, .int), (cZ, .boolean)] (wC cI cZ ad u) (wC cI cZ ad w') [.ref (ad 9), .int p0, .ref (ad 16), .ref (ad 20)] := by
  intro sz
  refine Met.ofW (cc := cX5_keep) (maxL := 7) (ret := none) (by decide) rfl ?_
  intro p e s m args below meth c s₁ B hml hv
  obtain ⟨rfl, hsz, hP, hK, hD0, hZ⟩ := hv
  have hx := B.exec
  have hb := B.bytes
  have hr := B.returns
  have hts : ∀ w ∈ Wall, w.before _ s = true := fun w hw => atoms_spec (ws := wm yX5_keep cX5_keep 7 none) B.pre w (List.mem_cons_of_mem _ hw)
  have hown : s.vm.findClass RX5 = some m.cls := findClass_of_methodNamed B.named
  have hlocks := B.notSynchronized
  subst hsz
  have hD := hD0.self (sz := s.heap.size)
  generalize hAe : va_A (wC cI cZ ad u) s.heap.size = A at hD hZ ⊢
  have hA : ∀ q : Nat, s.heap.size ≤ q → A q := fun q h => by rw [← hAe]; exact Or.inr h
  have hS : va_S A s.heap s.heap [] := va_S.rf
  have hf11 := hts _ mw_223
  have hl := lv_entry ([.ref (ad 9), .int p0, .ref (ad 16), .ref (ad 20)]) (n := 7) (Nat.le_of_ble_eq_true rfl)
  rw [lg_entry_eq]
  generalize (lg_sl ([.ref (ad 9), .int p0, .ref (ad 16), .ref (ad 20)]) ++ List.replicate (7 - (lg_sl ([.ref (ad 9), .int p0, .ref (ad 16), .ref (ad 20)])).length) Slot.unset).toArray = ls at hl ⊢
  replace hl : lv_has ls 7 [(0, .ref (ad 9)), (1, .int p0), (2, .ref (ad 16)), (3, .ref (ad 20))] := hl
  refine w_gen (fun Q hQ => ?_)
  refine lv_iconst (v := 0) hx hb dX5_keep_0 (by decide) ?_
  refine lv_istore (lv' := [(4, .int (0 : Int32)), (0, .ref (ad 9)), (1, .int p0), (2, .ref (ad 16)), (3, .ref (ad 20))]) hx hb dX5_keep_1 hl (by decide) rfl (fun ls hl => ?_)
  have hL3 : ∀ (k : GS → Option (GS)) (hk : ∀ (w3 : GS) (H : Heap) (locs : List Loc) (ls : Array Slot), k w3 = some w' → va_P D vwCl (wC cI cZ ad w3) H → va_D A (wC cI cZ ad w3) → va_S A s.heap H locs → lv_has ls 7 [] → W p l e rX5_keep s m ([.ref (ad 9), .int p0, .ref (ad 16), .ref (ad 20)] : List Value).toArray below meth c H locs 0 0 Q (F0 m 65 ls [])) (n : Nat) (x4_3 : Int32) (w3 : GS) (H : Heap) (locs : List Loc) (ls : Array Slot), lp_X5_keep_3 p0 k n x4_3 w3 = some w' → va_P D vwCl (wC cI cZ ad w3) H → va_D A (wC cI cZ ad w3) → va_S A s.heap H locs → lv_has ls 7 [(0, .ref (ad 9)), (1, .int p0), (2, .ref (ad 16)), (3, .ref (ad 20)), (4, .int x4_3)] → W p l e rX5_keep s m ([.ref (ad 9), .int p0, .ref (ad 16), .ref (ad 20)] : List Value).toArray below meth c H locs 0 0 Q (F0 m 3 ls []) := by
    intro k hk n
    induction n with
    | zero =>
      intro x4_3 w3 H locs ls h
      rw [lp_X5_keep_3] at h
      cases h
    | succ n ih =>
      intro x4_3 w3 H locs ls h hP hD hS hl
      rw [lp_X5_keep_3] at h
      refine lv_iload hx hb dX5_keep_3 (lv_at hl 4 rfl) ?_
      refine lv_bipush (v := 12) hx hb dX5_keep_5 (by decide) ?_
      refine lv_icmp_ge (tgt := 65) hx hb dX5_keep_7 (by decide) (fun c1 => ?_) (fun c1 => ?_)
      · replace h := gx_t c1 h
        exact hk w3 _ _ _ h hP hD hS (lv_sub hl [] rfl)
      · replace h := gx_f c1 h
        refine lv_aload_n hx hb dX5_keep_10 rfl (lv_at hl 2 rfl) ?_
        refine lv_iload hx hb dX5_keep_11 (lv_at hl 4 rfl) ?_
        obtain ⟨b2, h⟩ := gx_in h
        refine va_iald (D := D) hx hb hK hP 16 0 rfl rfl b2 dX5_keep_13 ?_
        obtain ⟨v3, ev3, h⟩ := gx_let h
        refine lv_topn ev3 ?_
        refine lv_istore (lv' := [(5, .int v3), (0, .ref (ad 9)), (1, .int p0), (2, .ref (ad 16)), (3, .ref (ad 20)), (4, .int x4_3)]) hx hb dX5_keep_14 hl (by decide) rfl (fun ls hl => ?_)
        refine lv_iconst (v := 3) hx hb dX5_keep_16 (by decide) ?_
        refine lv_istore (lv' := [(6, .int (3 : Int32)), (5, .int v3), (0, .ref (ad 9)), (1, .int p0), (2, .ref (ad 16)), (3, .ref (ad 20)), (4, .int x4_3)]) hx hb dX5_keep_17 hl (by decide) rfl (fun ls hl => ?_)
        have hL19 : ∀ (k : Int32 → Option (GS)) (hk : ∀ (x5_19 : Int32) (H : Heap) (locs : List Loc) (ls : Array Slot), k x5_19 = some w' → va_P D vwCl (wC cI cZ ad w3) H → va_D A (wC cI cZ ad w3) → va_S A s.heap H locs → lv_has ls 7 [(0, .ref (ad 9)), (1, .int p0), (2, .ref (ad 16)), (3, .ref (ad 20)), (4, .int x4_3), (5, .int x5_19)] → W p l e rX5_keep s m ([.ref (ad 9), .int p0, .ref (ad 16), .ref (ad 20)] : List Value).toArray below meth c H locs 0 0 Q (F0 m 46 ls [])) (n : Nat) (x5_19 : Int32) (x6_19 : Int32) (H : Heap) (locs : List Loc) (ls : Array Slot), lp_X5_keep_19 x4_3 w3 k n x5_19 x6_19 = some w' → va_P D vwCl (wC cI cZ ad w3) H → va_D A (wC cI cZ ad w3) → va_S A s.heap H locs → lv_has ls 7 [(0, .ref (ad 9)), (1, .int p0), (2, .ref (ad 16)), (3, .ref (ad 20)), (4, .int x4_3), (5, .int x5_19), (6, .int x6_19)] → W p l e rX5_keep s m ([.ref (ad 9), .int p0, .ref (ad 16), .ref (ad 20)] : List Value).toArray below meth c H locs 0 0 Q (F0 m 19 ls []) := by
          intro k hk n
          induction n with
          | zero =>
            intro x5_19 x6_19 H locs ls h
            rw [lp_X5_keep_19] at h
            cases h
          | succ n ih =>
            intro x5_19 x6_19 H locs ls h hP hD hS hl
            rw [lp_X5_keep_19] at h
            refine lv_iload hx hb dX5_keep_19 (lv_at hl 6 rfl) ?_
            refine lv_if_lt (tgt := 46) hx hb dX5_keep_21 (by decide) (fun c4 => ?_) (fun c4 => ?_)
            · replace h := gx_t c4 h
              exact hk x5_19 _ _ _ h hP hD hS (lv_sub hl [0, 1, 2, 3, 4, 5] rfl)
            · replace h := gx_f c4 h
              refine lv_iload hx hb dX5_keep_24 (lv_at hl 5 rfl) ?_
              refine lv_iconst (v := 4) hx hb dX5_keep_26 (by decide) ?_
              refine lv_imul hx hb dX5_keep_27 ?_
              refine lv_aload_n hx hb dX5_keep_28 rfl (lv_at hl 3 rfl) ?_
              refine lv_iload hx hb dX5_keep_29 (lv_at hl 4 rfl) ?_
              refine lv_iload hx hb dX5_keep_31 (lv_at hl 6 rfl) ?_
              obtain ⟨y5, hc6, h⟩ := gx_bind h
              refine cc_iSN (As := [.int x4_3, .int x6_19]) (rest := [.ref (ad 20), .int (x5_19 * (4 : Int32))]) ⟨hx, hb, hml, hown, hts⟩ (k_X9_placeOf l D cI cZ ad w3 x4_3 x6_19 hc6) ⟨va_cnB 2 hts (gwM mw_237) rfl rfl rfl (hZ.1 ("RedcrossGantry$Proofs", 19, yX9_placeOf) (by decide +kernel)) (hts _ mw_19) (by decide +kernel) ⟨Nat.le_of_ble_eq_true rfl, Nat.le_of_ble_eq_true rfl⟩, hts _ mw_236, trivial⟩ hK hP hD hS hA hZ rfl hl.1 rfl (Nat.le_of_ble_eq_true rfl) dX5_keep_33 ⟨Nat.zero_le _, Nat.zero_le _⟩ (fun H locs hP hD hS => ?_)
              obtain ⟨b7, h⟩ := gx_in h
              refine va_iald (D := D) hx hb hK hP 20 0 rfl rfl b7 dX5_keep_36 ?_
              refine lv_iadd hx hb dX5_keep_37 ?_
              obtain ⟨v8, ev8, h⟩ := gx_let h
              refine lv_topn ev8 ?_
              refine lv_istore (lv' := [(5, .int v8), (0, .ref (ad 9)), (1, .int p0), (2, .ref (ad 16)), (3, .ref (ad 20)), (4, .int x4_3), (6, .int x6_19)]) hx hb dX5_keep_38 hl (by decide) rfl (fun ls hl => ?_)
              obtain ⟨v9, ev9, h⟩ := gx_let h
              refine lv_iinc (v := v9) (lv' := [(6, .int v9), (5, .int v8), (0, .ref (ad 9)), (1, .int p0), (2, .ref (ad 16)), (3, .ref (ad 20)), (4, .int x4_3)]) hx hb dX5_keep_40 hl (k := 6) rfl (by rw [← ev9]; rfl) (by decide) rfl (fun ls hl => ?_)
              refine lv_goto (tgt := 19) hx hb dX5_keep_43 (by decide) ?_
              exact ih v8 v9 _ _ _ h hP hD hS (lv_sub hl [2, 3, 4, 5, 6, 1, 0] rfl)
        refine hL19 _ (fun x5_19 H locs ls h hP hD hS hl => ?_) FU v3 (3 : Int32) _ _ _ h hP hD hS (lv_sub hl [2, 3, 4, 5, 6, 1, 0] rfl)
        refine lv_aload_n hx hb dX5_keep_46 rfl (lv_at hl 0 rfl) ?_
        refine va_get (D := D) (ci := 5) (v := .ref (ad 34)) (C := RX5) (T := TX5) (N := 1) hx hb hts iX5 hown hK hP 9 rfl rfl 0 (by decide) hf11 (fun _ h9 => h9) rfl dX5_keep_47 ?_
        refine lv_iload_n hx hb dX5_keep_50 rfl (lv_at hl 1 rfl) ?_
        refine lv_iload hx hb dX5_keep_51 (lv_at hl 4 rfl) ?_
        obtain ⟨y10, hc11, h⟩ := gx_bind h
        refine cc_iS (As := [.int p0, .int x4_3]) (rest := [.ref (ad 34)]) ⟨hx, hb, hml, hown, hts⟩ (k_X5_slotOf l D cI cZ ad w3 p0 x4_3 hc11) (va_cwS 2 hts (gwS mw_268 mw_269 mw_28 mw_270) rfl rfl rfl (by decide +kernel) ⟨Nat.le_of_ble_eq_true rfl, Nat.le_of_ble_eq_true rfl⟩) hK hP hD hS hA hZ rfl hl.1 rfl (Nat.le_of_ble_eq_true rfl) dX5_keep_53 ⟨Nat.zero_le _, Nat.zero_le _⟩ (fun H locs hP hD hS => ?_)
        refine lv_iload hx hb dX5_keep_56 (lv_at hl 5 rfl) ?_
        obtain ⟨b12, h⟩ := gx_in h
        refine va_iast (D := D) hx hb hK hP hD hS 34 0 rfl rfl b12 dX5_keep_58 (fun H locs hP hD hS => ?_)
        obtain ⟨u13, eu13, h⟩ := gx_let h
        replace hP : va_P D vwCl (wC cI cZ ad u13) H := by rw [← eu13]; exact hP
        replace hD : va_D A (wC cI cZ ad u13) := by rw [← eu13]; exact hD
        obtain ⟨v14, ev14, h⟩ := gx_let h
        refine lv_iinc (v := v14) (lv' := [(4, .int v14), (0, .ref (ad 9)), (1, .int p0), (2, .ref (ad 16)), (3, .ref (ad 20)), (5, .int x5_19)]) hx hb dX5_keep_59 hl (k := 4) rfl (by rw [← ev14]; rfl) (by decide) rfl (fun ls hl => ?_)
        refine lv_goto (tgt := 3) hx hb dX5_keep_62 (by decide) ?_
        exact ih v14 u13 _ _ _ h hP hD hS (lv_sub hl [1, 2, 3, 4, 0] rfl)
  refine hL3 _ (fun w3 H locs ls h hP hD hS hl => ?_) FU (0 : Int32) u _ _ _ h hP hD hS (lv_sub hl [1, 2, 3, 4, 0] rfl)
  cases h
  exact cc_vret hx hb hr hQ hK hP hD hS dX5_keep_65 hlocks
