def rX9_report : Room := { frames := 3, cells := 0, slots := 0, locals := 63 }
set_option maxHeartbeats 4000000 in
set_option maxRecDepth 100000 in
theorem k_X9_report (l : Launch) (D : va_G) (cI cZ : ClassId) (ad : Nat → Nat) (u : GS) (p0 : Int32) (p1 : Int32) {r : Int32} {w' : GS} (h : g_X9_report u p0 p1 = some (.inl r, w')) : MI l yX9_report (wm yX9_report cX9_report 4 (some .int)) rX9_report D [(cI, .int), (cZ, .boolean)] (wC cI cZ ad u) (wC cI cZ ad w') [.ref (ad 0), .int p0, .int p1] r := by
  intro sz
  refine Met.ofW (cc := cX9_report) (maxL := 4) (ret := (some .int)) (by decide) rfl ?_
  intro p e s m args below meth c s₁ B hml hv
  obtain ⟨rfl, hsz, hP, hK, hD0, hZ⟩ := hv
  have hx := B.exec
  have hb := B.bytes
  have hr := B.returns
  have hts : ∀ w ∈ Wall, w.before _ s = true := fun w hw => atoms_spec (ws := wm yX9_report cX9_report 4 (some .int)) B.pre w (List.mem_cons_of_mem _ hw)
  have hown : s.vm.findClass RX9 = some m.cls := findClass_of_methodNamed B.named
  have hlocks := B.notSynchronized
  subst hsz
  have hD := hD0.self (sz := s.heap.size)
  generalize hAe : va_A (wC cI cZ ad u) s.heap.size = A at hD hZ ⊢
  have hA : ∀ q : Nat, s.heap.size ≤ q → A q := fun q h => by rw [← hAe]; exact Or.inr h
  have hS : va_S A s.heap s.heap [] := va_S.rf
  have hf51 := hts _ mw_310
  have hl := lv_entry ([.ref (ad 0), .int p0, .int p1]) (n := 4) (Nat.le_of_ble_eq_true rfl)
  rw [lg_entry_eq]
  generalize (lg_sl ([.ref (ad 0), .int p0, .int p1]) ++ List.replicate (4 - (lg_sl ([.ref (ad 0), .int p0, .int p1])).length) Slot.unset).toArray = ls at hl ⊢
  replace hl : lv_has ls 4 [(0, .ref (ad 0)), (1, .int p0), (2, .int p1)] := hl
  refine w_gen (fun Q hQ => ?_)
  refine lv_iload_n hx hb dX9_report_0 rfl (lv_at hl 1 rfl) ?_
  refine lv_iload_n hx hb dX9_report_1 rfl (lv_at hl 2 rfl) ?_
  obtain ⟨y1, u2, hc3, h⟩ := gx_xr h
  refine cc_vS (As := [.int p0, .int p1]) (rest := []) ⟨hx, hb, hml, hown, hts⟩ (k_X9_needPlace l D cI cZ ad u p0 p1 hc3) (va_cwS 2 hts (gwS mw_592 mw_593 mw_48 mw_594) rfl rfl rfl (by decide +kernel) ⟨Nat.le_of_ble_eq_true rfl, Nat.le_of_ble_eq_true rfl⟩) hK hP hD hS hA hZ rfl hl.1 rfl (Nat.le_of_ble_eq_true rfl) dX9_report_2 ⟨Nat.zero_le _, Nat.zero_le _⟩ (fun H locs hP hD hS => ?_)
  refine lv_iload_n hx hb dX9_report_5 rfl (lv_at hl 1 rfl) ?_
  refine lv_iload_n hx hb dX9_report_6 rfl (lv_at hl 2 rfl) ?_
  obtain ⟨y4, hc5, h⟩ := gx_bind h
  refine cc_iS (As := [.int p0, .int p1]) (rest := []) ⟨hx, hb, hml, hown, hts⟩ (k_X9_placeOf l D cI cZ ad u2 p0 p1 hc5) (va_cwS 2 hts (gwS mw_617 mw_266 mw_48 mw_267) rfl rfl rfl (by decide +kernel) ⟨Nat.le_of_ble_eq_true rfl, Nat.le_of_ble_eq_true rfl⟩) hK hP hD hS hA hZ rfl hl.1 rfl (Nat.le_of_ble_eq_true rfl) dX9_report_7 ⟨Nat.zero_le _, Nat.zero_le _⟩ (fun H locs hP hD hS => ?_)
  refine lv_istore_n (lv' := [(3, .int y4), (0, .ref (ad 0)), (1, .int p0), (2, .int p1)]) hx hb dX9_report_10 rfl hl (by decide) rfl (fun ls hl => ?_)
  refine lv_iload_n hx hb dX9_report_11 rfl (lv_at hl 2 rfl) ?_
  obtain ⟨j24_6, ej24_6, h⟩ := gx_let h
  have hj24_6 : ∀ (z0_24 : Int32) (H : Heap) (locs : List Loc) (ls : Array Slot), j24_6 z0_24 = some (.inl r, w') → va_P D vwCl (wC cI cZ ad u2) H → va_D A (wC cI cZ ad u2) → va_S A s.heap H locs → lv_has ls 4 [(0, .ref (ad 0)), (3, .int y4)] → W p l e rX9_report s m ([.ref (ad 0), .int p0, .int p1] : List Value).toArray below meth c H locs 0 0 Q (F0 m 24 ls [.int z0_24]) := by
    intro z0_24 H locs ls h hP hD hS hl
    subst ej24_6
    obtain ⟨y7, u8, hc9, h⟩ := gx_xr h
    refine cc_vS (As := [.int z0_24]) (rest := []) ⟨hx, hb, hml, hown, hts⟩ (k_X9_needState l D cI cZ ad u2 z0_24 hc9) (va_cwS 1 hts (gwS mw_471 mw_472 mw_48 mw_473) rfl rfl rfl (by decide +kernel) ⟨Nat.le_of_ble_eq_true rfl, Nat.le_of_ble_eq_true rfl⟩) hK hP hD hS hA hZ rfl hl.1 rfl (Nat.le_of_ble_eq_true rfl) dX9_report_24 ⟨Nat.zero_le _, Nat.zero_le _⟩ (fun H locs hP hD hS => ?_)
    refine lv_aload_n hx hb dX9_report_27 rfl (lv_at hl 0 rfl) ?_
    refine va_get (D := D) (ci := 9) (v := .ref (ad 6)) (C := RX9) (T := TX9) (N := 10) hx hb hts iX9 hown hK hP 0 rfl rfl 6 (by decide) hf51 (fun _ h9 => h9) rfl dX9_report_28 ?_
    refine lv_iload_n hx hb dX9_report_31 rfl (lv_at hl 1 rfl) ?_
    obtain ⟨y10, hc11, h⟩ := gx_bind h
    refine cc_iV (As := [.int y4]) (rest := []) ⟨hx, hb, hml, hown, hts⟩ (k_X2_canAdd l D cI cZ ad u8 y4 hc11) (cwV 1 hts (gwV mw_717 mw_718 mw_719 mw_54 mw_720) rfl rfl rfl (by decide +kernel) ⟨Nat.le_of_ble_eq_true rfl, Nat.le_of_ble_eq_true rfl⟩) hK hP hD hS hA hZ (ci := 2) (q0 := 6) rfl rfl rfl hl.1 rfl (Nat.le_of_ble_eq_true rfl) dX9_report_32 ⟨Nat.zero_le _, Nat.zero_le _⟩ (fun H locs hP hD hS => ?_)
    obtain ⟨y12, u13, hc14, h⟩ := gx_xr h
    refine cc_vS (As := [.int y10]) (rest := []) ⟨hx, hb, hml, hown, hts⟩ (k_X9_needState l D cI cZ ad u8 y10 hc14) (va_cwS 1 hts (gwS mw_471 mw_472 mw_48 mw_473) rfl rfl rfl (by decide +kernel) ⟨Nat.le_of_ble_eq_true rfl, Nat.le_of_ble_eq_true rfl⟩) hK hP hD hS hA hZ rfl hl.1 rfl (Nat.le_of_ble_eq_true rfl) dX9_report_35 ⟨Nat.zero_le _, Nat.zero_le _⟩ (fun H locs hP hD hS => ?_)
    refine lv_aload_n hx hb dX9_report_38 rfl (lv_at hl 0 rfl) ?_
    refine va_get (D := D) (ci := 9) (v := .ref (ad 6)) (C := RX9) (T := TX9) (N := 10) hx hb hts iX9 hown hK hP 0 rfl rfl 6 (by decide) hf51 (fun _ h9 => h9) rfl dX9_report_39 ?_
    refine lv_iload_n hx hb dX9_report_42 rfl (lv_at hl 1 rfl) ?_
    obtain ⟨y15, hc16, h⟩ := gx_bind h
    refine cc_iV (As := [.int y4]) (rest := []) ⟨hx, hb, hml, hown, hts⟩ (k_X2_add l D cI cZ ad u13 y4 hc16) (cwV 1 hts (gwV mw_721 mw_722 mw_723 mw_54 mw_724) rfl rfl rfl (by decide +kernel) ⟨Nat.le_of_ble_eq_true rfl, Nat.le_of_ble_eq_true rfl⟩) hK hP hD hS hA hZ (ci := 2) (q0 := 6) rfl rfl rfl hl.1 rfl (Nat.le_of_ble_eq_true rfl) dX9_report_43 ⟨Nat.zero_le _, Nat.zero_le _⟩ (fun H locs hP hD hS => ?_)
    cases h
    exact cc_ret hx hb hr rfl hQ hK hP hD hS rfl dX9_report_46 hlocks
  obtain ⟨j19_17, ej19_17, h⟩ := gx_let h
  have hj19_17 : ∀ (H : Heap) (locs : List Loc) (ls : Array Slot), j19_17 () = some (.inl r, w') → va_P D vwCl (wC cI cZ ad u2) H → va_D A (wC cI cZ ad u2) → va_S A s.heap H locs → lv_has ls 4 [(0, .ref (ad 0)), (3, .int y4)] → W p l e rX9_report s m ([.ref (ad 0), .int p0, .int p1] : List Value).toArray below meth c H locs 0 0 Q (F0 m 19 ls []) := by
    intro  H locs ls h hP hD hS hl
    subst ej19_17
    refine lv_iconst (v := 1) hx hb dX9_report_19 (by decide) ?_
    refine lv_goto (tgt := 24) hx hb dX9_report_20 (by decide) ?_
    exact hj24_6 (1 : Int32) _ _ _ h hP hD hS (lv_sub hl [0, 1] rfl)
  refine lv_if_ne (tgt := 19) hx hb dX9_report_12 (by decide) (fun c18 => ?_) (fun c18 => ?_)
  · replace h := gx_f c18 h
    exact hj19_17 _ _ _ h hP hD hS (lv_sub hl [1, 0] rfl)
  · replace h := gx_t c18 h
    refine lv_iload_n hx hb dX9_report_15 rfl (lv_at hl 3 rfl) ?_
    refine lv_if_ne (tgt := 23) hx hb dX9_report_16 (by decide) (fun c19 => ?_) (fun c19 => ?_)
    · replace h := gx_f c19 h
      refine lv_iconst (v := 0) hx hb dX9_report_23 (by decide) ?_
      exact hj24_6 (0 : Int32) _ _ _ h hP hD hS (lv_sub hl [1, 0] rfl)
    · replace h := gx_t c19 h
      exact hj19_17 _ _ _ h hP hD hS (lv_sub hl [1, 0] rfl)

def rx_X9_report : Room := { frames := 9, cells := 1, slots := 6, locals := 151 }
set_option maxHeartbeats 4000000 in
set_option maxRecDepth 100000 in
theorem kx_X9_report (l : Launch) (hl0 : l.stackTraces = false) (D : va_G) (cI cZ : ClassId) (ad : Nat → Nat) (u : GS) (p0 : Int32) (p1 : Int32) {E : String} {w' : GS} (h : g_X9_report u p0 p1 = some (.inr E, w')) : XI l yX9_report (wm yX9_report cX9_report 4 (some .int)) rx_X9_report D [(cI, .int), (cZ, .boolean)] (wC cI cZ ad u) (wC cI cZ ad w') [.ref (ad 0), .int p0, .int p1] E := by
  intro sz
  refine vx_ofW (cc := cX9_report) (maxL := 4) (ret := (some .int)) (by decide) rfl ?_
  intro p e s m args below meth c s₁ B hml hout hv
  obtain ⟨rfl, hsz, hP, hK, hD0, hZ⟩ := hv
  have hx := B.exec
  have hb := B.bytes
  have hts : ∀ w ∈ Wall, w.before _ s = true := fun w hw => atoms_spec (ws := wm yX9_report cX9_report 4 (some .int)) B.pre w (List.mem_cons_of_mem _ hw)
  have hown : s.vm.findClass RX9 = some m.cls := findClass_of_methodNamed B.named
  have hlocks := B.notSynchronized
  subst hsz
  have hD := hD0.self (sz := s.heap.size)
  generalize hAe : va_A (wC cI cZ ad u) s.heap.size = A at hD hZ
  have hA : ∀ q : Nat, s.heap.size ≤ q → A q := fun q h => by rw [← hAe]; exact Or.inr h
  have hS : va_S A s.heap s.heap [] := va_S.rf
  have hf51 := hts _ mw_310
  have hl := lv_entry ([.ref (ad 0), .int p0, .int p1]) (n := 4) (Nat.le_of_ble_eq_true rfl)
  rw [lg_entry_eq]
  generalize (lg_sl ([.ref (ad 0), .int p0, .int p1]) ++ List.replicate (4 - (lg_sl ([.ref (ad 0), .int p0, .int p1])).length) Slot.unset).toArray = ls at hl ⊢
  replace hl : lv_has ls 4 [(0, .ref (ad 0)), (1, .int p0), (2, .int p1)] := hl
  refine w_gen (fun Q hQ => ?_)
  refine lv_iload_n hx hb dX9_report_0 rfl (lv_at hl 1 rfl) ?_
  refine lv_iload_n hx hb dX9_report_1 rfl (lv_at hl 2 rfl) ?_
  rcases gx_xx h with ⟨y1, u2, hc3, h⟩ | ⟨u2, hc3, ew⟩
  · refine cc_vS (As := [.int p0, .int p1]) (rest := []) ⟨hx, hb, hml, hown, hts⟩ (k_X9_needPlace l D cI cZ ad u p0 p1 hc3) (va_cwS 2 hts (gwS mw_592 mw_593 mw_48 mw_594) rfl rfl rfl (by decide +kernel) ⟨Nat.le_of_ble_eq_true rfl, Nat.le_of_ble_eq_true rfl⟩) hK hP hD hS hA hZ rfl hl.1 rfl (Nat.le_of_ble_eq_true rfl) dX9_report_2 ⟨Nat.zero_le _, Nat.zero_le _⟩ (fun H locs hP hD hS => ?_)
    refine lv_iload_n hx hb dX9_report_5 rfl (lv_at hl 1 rfl) ?_
    refine lv_iload_n hx hb dX9_report_6 rfl (lv_at hl 2 rfl) ?_
    obtain ⟨y4, hc5, h⟩ := gx_bind h
    refine cc_iS (As := [.int p0, .int p1]) (rest := []) ⟨hx, hb, hml, hown, hts⟩ (k_X9_placeOf l D cI cZ ad u2 p0 p1 hc5) (va_cwS 2 hts (gwS mw_617 mw_266 mw_48 mw_267) rfl rfl rfl (by decide +kernel) ⟨Nat.le_of_ble_eq_true rfl, Nat.le_of_ble_eq_true rfl⟩) hK hP hD hS hA hZ rfl hl.1 rfl (Nat.le_of_ble_eq_true rfl) dX9_report_7 ⟨Nat.zero_le _, Nat.zero_le _⟩ (fun H locs hP hD hS => ?_)
    refine lv_istore_n (lv' := [(3, .int y4), (0, .ref (ad 0)), (1, .int p0), (2, .int p1)]) hx hb dX9_report_10 rfl hl (by decide) rfl (fun ls hl => ?_)
    refine lv_iload_n hx hb dX9_report_11 rfl (lv_at hl 2 rfl) ?_
    obtain ⟨j24_6, ej24_6, h⟩ := gx_let h
    have hj24_6 : ∀ (z0_24 : Int32) (H : Heap) (locs : List Loc) (ls : Array Slot), j24_6 z0_24 = some (.inr E, w') → va_P D vwCl (wC cI cZ ad u2) H → va_D A (wC cI cZ ad u2) → va_S A s.heap H locs → lv_has ls 4 [(0, .ref (ad 0)), (3, .int y4)] → W p l e rx_X9_report s m ([.ref (ad 0), .int p0, .int p1] : List Value).toArray below meth c H locs 0 0 Q (F0 m 24 ls [.int z0_24]) := by
      intro z0_24 H locs ls h hP hD hS hl
      subst ej24_6
      rcases gx_xx h with ⟨y7, u8, hc9, h⟩ | ⟨u8, hc9, ew⟩
      · refine cc_vS (As := [.int z0_24]) (rest := []) ⟨hx, hb, hml, hown, hts⟩ (k_X9_needState l D cI cZ ad u2 z0_24 hc9) (va_cwS 1 hts (gwS mw_471 mw_472 mw_48 mw_473) rfl rfl rfl (by decide +kernel) ⟨Nat.le_of_ble_eq_true rfl, Nat.le_of_ble_eq_true rfl⟩) hK hP hD hS hA hZ rfl hl.1 rfl (Nat.le_of_ble_eq_true rfl) dX9_report_24 ⟨Nat.zero_le _, Nat.zero_le _⟩ (fun H locs hP hD hS => ?_)
        refine lv_aload_n hx hb dX9_report_27 rfl (lv_at hl 0 rfl) ?_
        refine va_get (D := D) (ci := 9) (v := .ref (ad 6)) (C := RX9) (T := TX9) (N := 10) hx hb hts iX9 hown hK hP 0 rfl rfl 6 (by decide) hf51 (fun _ h9 => h9) rfl dX9_report_28 ?_
        refine lv_iload_n hx hb dX9_report_31 rfl (lv_at hl 1 rfl) ?_
        obtain ⟨y10, hc11, h⟩ := gx_bind h
        refine cc_iV (As := [.int y4]) (rest := []) ⟨hx, hb, hml, hown, hts⟩ (k_X2_canAdd l D cI cZ ad u8 y4 hc11) (cwV 1 hts (gwV mw_717 mw_718 mw_719 mw_54 mw_720) rfl rfl rfl (by decide +kernel) ⟨Nat.le_of_ble_eq_true rfl, Nat.le_of_ble_eq_true rfl⟩) hK hP hD hS hA hZ (ci := 2) (q0 := 6) rfl rfl rfl hl.1 rfl (Nat.le_of_ble_eq_true rfl) dX9_report_32 ⟨Nat.zero_le _, Nat.zero_le _⟩ (fun H locs hP hD hS => ?_)
        rcases gx_xx h with ⟨y12, u13, hc14, h⟩ | ⟨u13, hc14, ew⟩
        · refine cc_vS (As := [.int y10]) (rest := []) ⟨hx, hb, hml, hown, hts⟩ (k_X9_needState l D cI cZ ad u8 y10 hc14) (va_cwS 1 hts (gwS mw_471 mw_472 mw_48 mw_473) rfl rfl rfl (by decide +kernel) ⟨Nat.le_of_ble_eq_true rfl, Nat.le_of_ble_eq_true rfl⟩) hK hP hD hS hA hZ rfl hl.1 rfl (Nat.le_of_ble_eq_true rfl) dX9_report_35 ⟨Nat.zero_le _, Nat.zero_le _⟩ (fun H locs hP hD hS => ?_)
          refine lv_aload_n hx hb dX9_report_38 rfl (lv_at hl 0 rfl) ?_
          refine va_get (D := D) (ci := 9) (v := .ref (ad 6)) (C := RX9) (T := TX9) (N := 10) hx hb hts iX9 hown hK hP 0 rfl rfl 6 (by decide) hf51 (fun _ h9 => h9) rfl dX9_report_39 ?_
          refine lv_iload_n hx hb dX9_report_42 rfl (lv_at hl 1 rfl) ?_
          obtain ⟨y15, hc16, h⟩ := gx_bind h
          refine cc_iV (As := [.int y4]) (rest := []) ⟨hx, hb, hml, hown, hts⟩ (k_X2_add l D cI cZ ad u13 y4 hc16) (cwV 1 hts (gwV mw_721 mw_722 mw_723 mw_54 mw_724) rfl rfl rfl (by decide +kernel) ⟨Nat.le_of_ble_eq_true rfl, Nat.le_of_ble_eq_true rfl⟩) hK hP hD hS hA hZ (ci := 2) (q0 := 6) rfl rfl rfl hl.1 rfl (Nat.le_of_ble_eq_true rfl) dX9_report_43 ⟨Nat.zero_le _, Nat.zero_le _⟩ (fun H locs hP hD hS => ?_)
          cases h
        · replace ew : u13 = w' := ew
          subst ew
          refine cX_vS (As := [.int y10]) (rest := []) ⟨hx, hb, hml, hown, hts⟩ (kx_X9_needState l hl0 D cI cZ ad u8 y10 hc14) (va_cwS 1 hts (gwS mw_471 mw_472 mw_48 mw_473) rfl rfl rfl (by decide +kernel) ⟨Nat.le_of_ble_eq_true rfl, Nat.le_of_ble_eq_true rfl⟩) hK hP hD hS hA hZ rfl hl.1 rfl (Nat.le_of_ble_eq_true rfl) dX9_report_35 ⟨Nat.le_of_ble_eq_true rfl, Nat.le_of_ble_eq_true rfl⟩ (fun ce q9 H locs hP hD hS h1 h2 h3 => ?_)
          exact cX_back hAe hQ hout hlocks hK rfl hP hD hS h1 h2 h3 (Nat.le_refl _) (Nat.le_refl _)
      · replace ew : u8 = w' := ew
        subst ew
        refine cX_vS (As := [.int z0_24]) (rest := []) ⟨hx, hb, hml, hown, hts⟩ (kx_X9_needState l hl0 D cI cZ ad u2 z0_24 hc9) (va_cwS 1 hts (gwS mw_471 mw_472 mw_48 mw_473) rfl rfl rfl (by decide +kernel) ⟨Nat.le_of_ble_eq_true rfl, Nat.le_of_ble_eq_true rfl⟩) hK hP hD hS hA hZ rfl hl.1 rfl (Nat.le_of_ble_eq_true rfl) dX9_report_24 ⟨Nat.le_of_ble_eq_true rfl, Nat.le_of_ble_eq_true rfl⟩ (fun ce q9 H locs hP hD hS h1 h2 h3 => ?_)
        exact cX_back hAe hQ hout hlocks hK rfl hP hD hS h1 h2 h3 (Nat.le_refl _) (Nat.le_refl _)
    obtain ⟨j19_17, ej19_17, h⟩ := gx_let h
    have hj19_17 : ∀ (H : Heap) (locs : List Loc) (ls : Array Slot), j19_17 () = some (.inr E, w') → va_P D vwCl (wC cI cZ ad u2) H → va_D A (wC cI cZ ad u2) → va_S A s.heap H locs → lv_has ls 4 [(0, .ref (ad 0)), (3, .int y4)] → W p l e rx_X9_report s m ([.ref (ad 0), .int p0, .int p1] : List Value).toArray below meth c H locs 0 0 Q (F0 m 19 ls []) := by
      intro  H locs ls h hP hD hS hl
      subst ej19_17
      refine lv_iconst (v := 1) hx hb dX9_report_19 (by decide) ?_
      refine lv_goto (tgt := 24) hx hb dX9_report_20 (by decide) ?_
      exact hj24_6 (1 : Int32) _ _ _ h hP hD hS (lv_sub hl [0, 1] rfl)
    refine lv_if_ne (tgt := 19) hx hb dX9_report_12 (by decide) (fun c18 => ?_) (fun c18 => ?_)
    · replace h := gx_f c18 h
      exact hj19_17 _ _ _ h hP hD hS (lv_sub hl [1, 0] rfl)
    · replace h := gx_t c18 h
      refine lv_iload_n hx hb dX9_report_15 rfl (lv_at hl 3 rfl) ?_
      refine lv_if_ne (tgt := 23) hx hb dX9_report_16 (by decide) (fun c19 => ?_) (fun c19 => ?_)
      · replace h := gx_f c19 h
        refine lv_iconst (v := 0) hx hb dX9_report_23 (by decide) ?_
        exact hj24_6 (0 : Int32) _ _ _ h hP hD hS (lv_sub hl [1, 0] rfl)
      · replace h := gx_t c19 h
        exact hj19_17 _ _ _ h hP hD hS (lv_sub hl [1, 0] rfl)
  · replace ew : u2 = w' := ew
    subst ew
    refine cX_vS (As := [.int p0, .int p1]) (rest := []) ⟨hx, hb, hml, hown, hts⟩ (kx_X9_needPlace l hl0 D cI cZ ad u p0 p1 hc3) (va_cwS 2 hts (gwS mw_592 mw_593 mw_48 mw_594) rfl rfl rfl (by decide +kernel) ⟨Nat.le_of_ble_eq_true rfl, Nat.le_of_ble_eq_true rfl⟩) hK hP hD hS hA hZ rfl hl.1 rfl (Nat.le_of_ble_eq_true rfl) dX9_report_2 ⟨Nat.le_of_ble_eq_true rfl, Nat.le_of_ble_eq_true rfl⟩ (fun ce q9 H locs hP hD hS h1 h2 h3 => ?_)
    exact cX_back hAe hQ hout hlocks hK rfl hP hD hS h1 h2 h3 (Nat.le_refl _) (Nat.le_refl _)

def rX9_confirm : Room := { frames := 2, cells := 0, slots := 0, locals := 43 }
set_option maxHeartbeats 4000000 in
set_option maxRecDepth 100000 in
theorem k_X9_confirm (l : Launch) (D : va_G) (cI cZ : ClassId) (ad : Nat → Nat) (u : GS) (p0 : Int32) {r : Int32} {w' : GS} (h : g_X9_confirm u p0 = some (.inl r, w')) : MI l yX9_confirm (wm yX9_confirm cX9_confirm 3 (some .int)) rX9_confirm D [(cI, .int), (cZ, .boolean)] (wC cI cZ ad u) (wC cI cZ ad w') [.ref (ad 0), .int p0] r := by
  intro sz
  refine Met.ofW (cc := cX9_confirm) (maxL := 3) (ret := (some .int)) (by decide) rfl ?_
  intro p e s m args below meth c s₁ B hml hv
  obtain ⟨rfl, hsz, hP, hK, hD0, hZ⟩ := hv
  have hx := B.exec
  have hb := B.bytes
  have hr := B.returns
  have hts : ∀ w ∈ Wall, w.before _ s = true := fun w hw => atoms_spec (ws := wm yX9_confirm cX9_confirm 3 (some .int)) B.pre w (List.mem_cons_of_mem _ hw)
  have hown : s.vm.findClass RX9 = some m.cls := findClass_of_methodNamed B.named
  have hlocks := B.notSynchronized
  subst hsz
  have hD := hD0.self (sz := s.heap.size)
  generalize hAe : va_A (wC cI cZ ad u) s.heap.size = A at hD hZ ⊢
  have hA : ∀ q : Nat, s.heap.size ≤ q → A q := fun q h => by rw [← hAe]; exact Or.inr h
  have hS : va_S A s.heap s.heap [] := va_S.rf
  have hf51 := hts _ mw_310
  have hf206 := hts _ mw_189
  have hf16 := hts _ mw_305
  have hf209 := hts _ mw_187
  have hl := lv_entry ([.ref (ad 0), .int p0]) (n := 3) (Nat.le_of_ble_eq_true rfl)
  rw [lg_entry_eq]
  generalize (lg_sl ([.ref (ad 0), .int p0]) ++ List.replicate (3 - (lg_sl ([.ref (ad 0), .int p0])).length) Slot.unset).toArray = ls at hl ⊢
  replace hl : lv_has ls 3 [(0, .ref (ad 0)), (1, .int p0)] := hl
  refine w_gen (fun Q hQ => ?_)
  refine lv_aload_n hx hb dX9_confirm_0 rfl (lv_at hl 0 rfl) ?_
  refine va_get (D := D) (ci := 9) (v := .ref (ad 6)) (C := RX9) (T := TX9) (N := 10) hx hb hts iX9 hown hK hP 0 rfl rfl 6 (by decide) hf51 (fun _ h9 => h9) rfl dX9_confirm_1 ?_
  refine lv_iload_n hx hb dX9_confirm_4 rfl (lv_at hl 1 rfl) ?_
  obtain ⟨y1, hc2, h⟩ := gx_bind h
  refine cc_iV (As := [.int p0]) (rest := []) ⟨hx, hb, hml, hown, hts⟩ (k_X2_has l D cI cZ ad u p0 hc2) (cwV 1 hts (gwV mw_502 mw_503 mw_504 mw_54 mw_505) rfl rfl rfl (by decide +kernel) ⟨Nat.le_of_ble_eq_true rfl, Nat.le_of_ble_eq_true rfl⟩) hK hP hD hS hA hZ (ci := 2) (q0 := 6) rfl rfl rfl hl.1 rfl (Nat.le_of_ble_eq_true rfl) dX9_confirm_5 ⟨Nat.zero_le _, Nat.zero_le _⟩ (fun H locs hP hD hS => ?_)
  obtain ⟨y3, u4, hc5, h⟩ := gx_xr h
  refine cc_vS (As := [.int y1]) (rest := []) ⟨hx, hb, hml, hown, hts⟩ (k_X9_needIndex l D cI cZ ad u y1 hc5) (va_cwS 1 hts (gwS mw_598 mw_599 mw_48 mw_600) rfl rfl rfl (by decide +kernel) ⟨Nat.le_of_ble_eq_true rfl, Nat.le_of_ble_eq_true rfl⟩) hK hP hD hS hA hZ rfl hl.1 rfl (Nat.le_of_ble_eq_true rfl) dX9_confirm_8 ⟨Nat.zero_le _, Nat.zero_le _⟩ (fun H locs hP hD hS => ?_)
  refine lv_aload_n hx hb dX9_confirm_11 rfl (lv_at hl 0 rfl) ?_
  refine va_get (D := D) (ci := 9) (v := .ref (ad 6)) (C := RX9) (T := TX9) (N := 10) hx hb hts iX9 hown hK hP 0 rfl rfl 6 (by decide) hf51 (fun _ h9 => h9) rfl dX9_confirm_12 ?_
  refine va_get (D := D) (ci := 2) (v := .ref (ad 24)) (C := RX2) (T := TX2) (N := 4) hx hb hts iX2 hown hK hP 6 rfl rfl 1 (by decide) hf206 (fun _ h9 => h9) rfl dX9_confirm_15 ?_
  refine lv_iload_n hx hb dX9_confirm_18 rfl (lv_at hl 1 rfl) ?_
  obtain ⟨b6, h⟩ := gx_in h
  refine va_iald (D := D) hx hb hK hP 24 0 rfl rfl b6 dX9_confirm_19 ?_
  obtain ⟨j28_7, ej28_7, h⟩ := gx_let h
  have hj28_7 : ∀ (z0_28 : Int32) (H : Heap) (locs : List Loc) (ls : Array Slot), j28_7 z0_28 = some (.inl r, w') → va_P D vwCl (wC cI cZ ad u4) H → va_D A (wC cI cZ ad u4) → va_S A s.heap H locs → lv_has ls 3 [(0, .ref (ad 0)), (1, .int p0)] → W p l e rX9_confirm s m ([.ref (ad 0), .int p0] : List Value).toArray below meth c H locs 0 0 Q (F0 m 28 ls [.int z0_28]) := by
    intro z0_28 H locs ls h hP hD hS hl
    subst ej28_7
    obtain ⟨y8, u9, hc10, h⟩ := gx_xr h
    refine cc_vS (As := [.int z0_28]) (rest := []) ⟨hx, hb, hml, hown, hts⟩ (k_X9_needState l D cI cZ ad u4 z0_28 hc10) (va_cwS 1 hts (gwS mw_471 mw_472 mw_48 mw_473) rfl rfl rfl (by decide +kernel) ⟨Nat.le_of_ble_eq_true rfl, Nat.le_of_ble_eq_true rfl⟩) hK hP hD hS hA hZ rfl hl.1 rfl (Nat.le_of_ble_eq_true rfl) dX9_confirm_28 ⟨Nat.zero_le _, Nat.zero_le _⟩ (fun H locs hP hD hS => ?_)
    refine lv_aload_n hx hb dX9_confirm_31 rfl (lv_at hl 0 rfl) ?_
    refine va_get (D := D) (ci := 9) (v := .ref (ad 1)) (C := RX9) (T := TX9) (N := 10) hx hb hts iX9 hown hK hP 0 rfl rfl 1 (by decide) hf16 (fun _ h9 => h9) rfl dX9_confirm_32 ?_
    refine lv_aload_n hx hb dX9_confirm_35 rfl (lv_at hl 0 rfl) ?_
    refine va_get (D := D) (ci := 9) (v := .ref (ad 6)) (C := RX9) (T := TX9) (N := 10) hx hb hts iX9 hown hK hP 0 rfl rfl 6 (by decide) hf51 (fun _ h9 => h9) rfl dX9_confirm_36 ?_
    refine va_get (D := D) (ci := 2) (v := .ref (ad 23)) (C := RX2) (T := TX2) (N := 4) hx hb hts iX2 hown hK hP 6 rfl rfl 0 (by decide) hf209 (fun _ h9 => h9) rfl dX9_confirm_39 ?_
    refine lv_iload_n hx hb dX9_confirm_42 rfl (lv_at hl 1 rfl) ?_
    obtain ⟨b11, h⟩ := gx_in h
    refine va_iald (D := D) hx hb hK hP 23 0 rfl rfl b11 dX9_confirm_43 ?_
    obtain ⟨y12, hc13, h⟩ := gx_bind h
    refine cc_iV (As := [.int (cI_places u9 p0.toNatClampNeg)]) (rest := []) ⟨hx, hb, hml, hown, hts⟩ (k_X8_isStoppedAt l D cI cZ ad u9 (cI_places u9 p0.toNatClampNeg) hc13) (cwV 1 hts (gwV mw_732 mw_534 mw_535 mw_49 mw_536) rfl rfl rfl (by decide +kernel) ⟨Nat.le_of_ble_eq_true rfl, Nat.le_of_ble_eq_true rfl⟩) hK hP hD hS hA hZ (ci := 8) (q0 := 1) rfl rfl rfl hl.1 rfl (Nat.le_of_ble_eq_true rfl) dX9_confirm_44 ⟨Nat.zero_le _, Nat.zero_le _⟩ (fun H locs hP hD hS => ?_)
    refine lv_istore_n (lv' := [(2, .int y12), (0, .ref (ad 0)), (1, .int p0)]) hx hb dX9_confirm_47 rfl hl (by decide) rfl (fun ls hl => ?_)
    refine lv_aload_n hx hb dX9_confirm_48 rfl (lv_at hl 1 rfl) ?_
    refine va_get (D := D) (ci := 9) (v := .ref (ad 6)) (C := RX9) (T := TX9) (N := 10) hx hb hts iX9 hown hK hP 0 rfl rfl 6 (by decide) hf51 (fun _ h9 => h9) rfl dX9_confirm_49 ?_
    refine va_get (D := D) (ci := 2) (v := .ref (ad 24)) (C := RX2) (T := TX2) (N := 4) hx hb hts iX2 hown hK hP 6 rfl rfl 1 (by decide) hf206 (fun _ h9 => h9) rfl dX9_confirm_52 ?_
    refine lv_iload_n hx hb dX9_confirm_55 rfl (lv_at hl 2 rfl) ?_
    refine lv_iload_n hx hb dX9_confirm_56 rfl (lv_at hl 0 rfl) ?_
    obtain ⟨j65_14, ej65_14, h⟩ := gx_let h
    have hj65_14 : ∀ (z0_65 : Int32) (H : Heap) (locs : List Loc) (ls : Array Slot), j65_14 z0_65 = some (.inl r, w') → va_P D vwCl (wC cI cZ ad u9) H → va_D A (wC cI cZ ad u9) → va_S A s.heap H locs → lv_has ls 3 [(0, .ref (ad 0)), (1, .int p0)] → W p l e rX9_confirm s m ([.ref (ad 0), .int p0] : List Value).toArray below meth c H locs 0 0 Q (F0 m 65 ls [.int z0_65, .int p0, .ref (ad 24)]) := by
      intro z0_65 H locs ls h hP hD hS hl
      subst ej65_14
      obtain ⟨b15, h⟩ := gx_in h
      refine va_iast (D := D) hx hb hK hP hD hS 24 0 rfl rfl b15 dX9_confirm_65 (fun H locs hP hD hS => ?_)
      obtain ⟨u16, eu16, h⟩ := gx_let h
      replace hP : va_P D vwCl (wC cI cZ ad u16) H := by rw [← eu16]; exact hP
      replace hD : va_D A (wC cI cZ ad u16) := by rw [← eu16]; exact hD
      refine lv_aload_n hx hb dX9_confirm_66 rfl (lv_at hl 0 rfl) ?_
      refine va_get (D := D) (ci := 9) (v := .ref (ad 6)) (C := RX9) (T := TX9) (N := 10) hx hb hts iX9 hown hK hP 0 rfl rfl 6 (by decide) hf51 (fun _ h9 => h9) rfl dX9_confirm_67 ?_
      refine va_get (D := D) (ci := 2) (v := .ref (ad 24)) (C := RX2) (T := TX2) (N := 4) hx hb hts iX2 hown hK hP 6 rfl rfl 1 (by decide) hf206 (fun _ h9 => h9) rfl dX9_confirm_70 ?_
      refine lv_iload_n hx hb dX9_confirm_73 rfl (lv_at hl 1 rfl) ?_
      obtain ⟨b17, h⟩ := gx_in h
      refine va_iald (D := D) hx hb hK hP 24 0 rfl rfl b17 dX9_confirm_74 ?_
      cases h
      exact cc_ret hx hb hr rfl hQ hK hP hD hS rfl dX9_confirm_75 hlocks
    refine lv_if_eq (tgt := 64) hx hb dX9_confirm_57 (by decide) (fun c18 => ?_) (fun c18 => ?_)
    · replace h := gx_t c18 h
      refine lv_iconst (v := 2) hx hb dX9_confirm_64 (by decide) ?_
      exact hj65_14 (2 : Int32) _ _ _ h hP hD hS (lv_sub hl [1, 2] rfl)
    · replace h := gx_f c18 h
      refine lv_iconst (v := 1) hx hb dX9_confirm_60 (by decide) ?_
      refine lv_goto (tgt := 65) hx hb dX9_confirm_61 (by decide) ?_
      exact hj65_14 (1 : Int32) _ _ _ h hP hD hS (lv_sub hl [1, 2] rfl)
  refine lv_if_ne (tgt := 27) hx hb dX9_confirm_20 (by decide) (fun c19 => ?_) (fun c19 => ?_)
  · replace h := gx_f c19 h
    refine lv_iconst (v := 0) hx hb dX9_confirm_27 (by decide) ?_
    exact hj28_7 (0 : Int32) _ _ _ h hP hD hS (lv_sub hl [0, 1] rfl)
  · replace h := gx_t c19 h
    refine lv_iconst (v := 1) hx hb dX9_confirm_23 (by decide) ?_
    refine lv_goto (tgt := 28) hx hb dX9_confirm_24 (by decide) ?_
    exact hj28_7 (1 : Int32) _ _ _ h hP hD hS (lv_sub hl [0, 1] rfl)

def rx_X9_confirm : Room := { frames := 7, cells := 1, slots := 6, locals := 110 }
set_option maxHeartbeats 4000000 in
set_option maxRecDepth 100000 in
theorem kx_X9_confirm (l : Launch) (hl0 : l.stackTraces = false) (D : va_G) (cI cZ : ClassId) (ad : Nat → Nat) (u : GS) (p0 : Int32) {E : String} {w' : GS} (h : g_X9_confirm u p0 = some (.inr E, w')) : XI l yX9_confirm (wm yX9_confirm cX9_confirm 3 (some .int)) rx_X9_confirm D [(cI, .int), (cZ, .boolean)] (wC cI cZ ad u) (wC cI cZ ad w') [.ref (ad 0), .int p0] E := by
  intro sz
  refine vx_ofW (cc := cX9_confirm) (maxL := 3) (ret := (some .int)) (by decide) rfl ?_
  intro p e s m args below meth c s₁ B hml hout hv
  obtain ⟨rfl, hsz, hP, hK, hD0, hZ⟩ := hv
  have hx := B.exec
  have hb := B.bytes
  have hts : ∀ w ∈ Wall, w.before _ s = true := fun w hw => atoms_spec (ws := wm yX9_confirm cX9_confirm 3 (some .int)) B.pre w (List.mem_cons_of_mem _ hw)
  have hown : s.vm.findClass RX9 = some m.cls := findClass_of_methodNamed B.named
  have hlocks := B.notSynchronized
  subst hsz
  have hD := hD0.self (sz := s.heap.size)
  generalize hAe : va_A (wC cI cZ ad u) s.heap.size = A at hD hZ
  have hA : ∀ q : Nat, s.heap.size ≤ q → A q := fun q h => by rw [← hAe]; exact Or.inr h
  have hS : va_S A s.heap s.heap [] := va_S.rf
  have hf51 := hts _ mw_310
  have hf206 := hts _ mw_189
  have hf16 := hts _ mw_305
  have hf209 := hts _ mw_187
  have hl := lv_entry ([.ref (ad 0), .int p0]) (n := 3) (Nat.le_of_ble_eq_true rfl)
  rw [lg_entry_eq]
  generalize (lg_sl ([.ref (ad 0), .int p0]) ++ List.replicate (3 - (lg_sl ([.ref (ad 0), .int p0])).length) Slot.unset).toArray = ls at hl ⊢
  replace hl : lv_has ls 3 [(0, .ref (ad 0)), (1, .int p0)] := hl
  refine w_gen (fun Q hQ => ?_)
  refine lv_aload_n hx hb dX9_confirm_0 rfl (lv_at hl 0 rfl) ?_
  refine va_get (D := D) (ci := 9) (v := .ref (ad 6)) (C := RX9) (T := TX9) (N := 10) hx hb hts iX9 hown hK hP 0 rfl rfl 6 (by decide) hf51 (fun _ h9 => h9) rfl dX9_confirm_1 ?_
  refine lv_iload_n hx hb dX9_confirm_4 rfl (lv_at hl 1 rfl) ?_
  obtain ⟨y1, hc2, h⟩ := gx_bind h
  refine cc_iV (As := [.int p0]) (rest := []) ⟨hx, hb, hml, hown, hts⟩ (k_X2_has l D cI cZ ad u p0 hc2) (cwV 1 hts (gwV mw_502 mw_503 mw_504 mw_54 mw_505) rfl rfl rfl (by decide +kernel) ⟨Nat.le_of_ble_eq_true rfl, Nat.le_of_ble_eq_true rfl⟩) hK hP hD hS hA hZ (ci := 2) (q0 := 6) rfl rfl rfl hl.1 rfl (Nat.le_of_ble_eq_true rfl) dX9_confirm_5 ⟨Nat.zero_le _, Nat.zero_le _⟩ (fun H locs hP hD hS => ?_)
  rcases gx_xx h with ⟨y3, u4, hc5, h⟩ | ⟨u4, hc5, ew⟩
  · refine cc_vS (As := [.int y1]) (rest := []) ⟨hx, hb, hml, hown, hts⟩ (k_X9_needIndex l D cI cZ ad u y1 hc5) (va_cwS 1 hts (gwS mw_598 mw_599 mw_48 mw_600) rfl rfl rfl (by decide +kernel) ⟨Nat.le_of_ble_eq_true rfl, Nat.le_of_ble_eq_true rfl⟩) hK hP hD hS hA hZ rfl hl.1 rfl (Nat.le_of_ble_eq_true rfl) dX9_confirm_8 ⟨Nat.zero_le _, Nat.zero_le _⟩ (fun H locs hP hD hS => ?_)
    refine lv_aload_n hx hb dX9_confirm_11 rfl (lv_at hl 0 rfl) ?_
    refine va_get (D := D) (ci := 9) (v := .ref (ad 6)) (C := RX9) (T := TX9) (N := 10) hx hb hts iX9 hown hK hP 0 rfl rfl 6 (by decide) hf51 (fun _ h9 => h9) rfl dX9_confirm_12 ?_
    refine va_get (D := D) (ci := 2) (v := .ref (ad 24)) (C := RX2) (T := TX2) (N := 4) hx hb hts iX2 hown hK hP 6 rfl rfl 1 (by decide) hf206 (fun _ h9 => h9) rfl dX9_confirm_15 ?_
    refine lv_iload_n hx hb dX9_confirm_18 rfl (lv_at hl 1 rfl) ?_
    obtain ⟨b6, h⟩ := gx_in h
    refine va_iald (D := D) hx hb hK hP 24 0 rfl rfl b6 dX9_confirm_19 ?_
    obtain ⟨j28_7, ej28_7, h⟩ := gx_let h
    have hj28_7 : ∀ (z0_28 : Int32) (H : Heap) (locs : List Loc) (ls : Array Slot), j28_7 z0_28 = some (.inr E, w') → va_P D vwCl (wC cI cZ ad u4) H → va_D A (wC cI cZ ad u4) → va_S A s.heap H locs → lv_has ls 3 [(0, .ref (ad 0)), (1, .int p0)] → W p l e rx_X9_confirm s m ([.ref (ad 0), .int p0] : List Value).toArray below meth c H locs 0 0 Q (F0 m 28 ls [.int z0_28]) := by
      intro z0_28 H locs ls h hP hD hS hl
      subst ej28_7
      rcases gx_xx h with ⟨y8, u9, hc10, h⟩ | ⟨u9, hc10, ew⟩
      · refine cc_vS (As := [.int z0_28]) (rest := []) ⟨hx, hb, hml, hown, hts⟩ (k_X9_needState l D cI cZ ad u4 z0_28 hc10) (va_cwS 1 hts (gwS mw_471 mw_472 mw_48 mw_473) rfl rfl rfl (by decide +kernel) ⟨Nat.le_of_ble_eq_true rfl, Nat.le_of_ble_eq_true rfl⟩) hK hP hD hS hA hZ rfl hl.1 rfl (Nat.le_of_ble_eq_true rfl) dX9_confirm_28 ⟨Nat.zero_le _, Nat.zero_le _⟩ (fun H locs hP hD hS => ?_)
        refine lv_aload_n hx hb dX9_confirm_31 rfl (lv_at hl 0 rfl) ?_
        refine va_get (D := D) (ci := 9) (v := .ref (ad 1)) (C := RX9) (T := TX9) (N := 10) hx hb hts iX9 hown hK hP 0 rfl rfl 1 (by decide) hf16 (fun _ h9 => h9) rfl dX9_confirm_32 ?_
        refine lv_aload_n hx hb dX9_confirm_35 rfl (lv_at hl 0 rfl) ?_
        refine va_get (D := D) (ci := 9) (v := .ref (ad 6)) (C := RX9) (T := TX9) (N := 10) hx hb hts iX9 hown hK hP 0 rfl rfl 6 (by decide) hf51 (fun _ h9 => h9) rfl dX9_confirm_36 ?_
        refine va_get (D := D) (ci := 2) (v := .ref (ad 23)) (C := RX2) (T := TX2) (N := 4) hx hb hts iX2 hown hK hP 6 rfl rfl 0 (by decide) hf209 (fun _ h9 => h9) rfl dX9_confirm_39 ?_
        refine lv_iload_n hx hb dX9_confirm_42 rfl (lv_at hl 1 rfl) ?_
        obtain ⟨b11, h⟩ := gx_in h
        refine va_iald (D := D) hx hb hK hP 23 0 rfl rfl b11 dX9_confirm_43 ?_
        obtain ⟨y12, hc13, h⟩ := gx_bind h
        refine cc_iV (As := [.int (cI_places u9 p0.toNatClampNeg)]) (rest := []) ⟨hx, hb, hml, hown, hts⟩ (k_X8_isStoppedAt l D cI cZ ad u9 (cI_places u9 p0.toNatClampNeg) hc13) (cwV 1 hts (gwV mw_732 mw_534 mw_535 mw_49 mw_536) rfl rfl rfl (by decide +kernel) ⟨Nat.le_of_ble_eq_true rfl, Nat.le_of_ble_eq_true rfl⟩) hK hP hD hS hA hZ (ci := 8) (q0 := 1) rfl rfl rfl hl.1 rfl (Nat.le_of_ble_eq_true rfl) dX9_confirm_44 ⟨Nat.zero_le _, Nat.zero_le _⟩ (fun H locs hP hD hS => ?_)
        refine lv_istore_n (lv' := [(2, .int y12), (0, .ref (ad 0)), (1, .int p0)]) hx hb dX9_confirm_47 rfl hl (by decide) rfl (fun ls hl => ?_)
        refine lv_aload_n hx hb dX9_confirm_48 rfl (lv_at hl 1 rfl) ?_
        refine va_get (D := D) (ci := 9) (v := .ref (ad 6)) (C := RX9) (T := TX9) (N := 10) hx hb hts iX9 hown hK hP 0 rfl rfl 6 (by decide) hf51 (fun _ h9 => h9) rfl dX9_confirm_49 ?_
        refine va_get (D := D) (ci := 2) (v := .ref (ad 24)) (C := RX2) (T := TX2) (N := 4) hx hb hts iX2 hown hK hP 6 rfl rfl 1 (by decide) hf206 (fun _ h9 => h9) rfl dX9_confirm_52 ?_
        refine lv_iload_n hx hb dX9_confirm_55 rfl (lv_at hl 2 rfl) ?_
        refine lv_iload_n hx hb dX9_confirm_56 rfl (lv_at hl 0 rfl) ?_
        obtain ⟨j65_14, ej65_14, h⟩ := gx_let h
        have hj65_14 : ∀ (z0_65 : Int32) (H : Heap) (locs : List Loc) (ls : Array Slot), j65_14 z0_65 = some (.inr E, w') → va_P D vwCl (wC cI cZ ad u9) H → va_D A (wC cI cZ ad u9) → va_S A s.heap H locs → lv_has ls 3 [(0, .ref (ad 0)), (1, .int p0)] → W p l e rx_X9_confirm s m ([.ref (ad 0), .int p0] : List Value).toArray below meth c H locs 0 0 Q (F0 m 65 ls [.int z0_65, .int p0, .ref (ad 24)]) := by
          intro z0_65 H locs ls h hP hD hS hl
          subst ej65_14
          obtain ⟨b15, h⟩ := gx_in h
          refine va_iast (D := D) hx hb hK hP hD hS 24 0 rfl rfl b15 dX9_confirm_65 (fun H locs hP hD hS => ?_)
          obtain ⟨u16, eu16, h⟩ := gx_let h
          replace hP : va_P D vwCl (wC cI cZ ad u16) H := by rw [← eu16]; exact hP
          replace hD : va_D A (wC cI cZ ad u16) := by rw [← eu16]; exact hD
          refine lv_aload_n hx hb dX9_confirm_66 rfl (lv_at hl 0 rfl) ?_
          refine va_get (D := D) (ci := 9) (v := .ref (ad 6)) (C := RX9) (T := TX9) (N := 10) hx hb hts iX9 hown hK hP 0 rfl rfl 6 (by decide) hf51 (fun _ h9 => h9) rfl dX9_confirm_67 ?_
          refine va_get (D := D) (ci := 2) (v := .ref (ad 24)) (C := RX2) (T := TX2) (N := 4) hx hb hts iX2 hown hK hP 6 rfl rfl 1 (by decide) hf206 (fun _ h9 => h9) rfl dX9_confirm_70 ?_
          refine lv_iload_n hx hb dX9_confirm_73 rfl (lv_at hl 1 rfl) ?_
          obtain ⟨b17, h⟩ := gx_in h
          refine va_iald (D := D) hx hb hK hP 24 0 rfl rfl b17 dX9_confirm_74 ?_
          cases h
        refine lv_if_eq (tgt := 64) hx hb dX9_confirm_57 (by decide) (fun c18 => ?_) (fun c18 => ?_)
        · replace h := gx_t c18 h
          refine lv_iconst (v := 2) hx hb dX9_confirm_64 (by decide) ?_
          exact hj65_14 (2 : Int32) _ _ _ h hP hD hS (lv_sub hl [1, 2] rfl)
        · replace h := gx_f c18 h
          refine lv_iconst (v := 1) hx hb dX9_confirm_60 (by decide) ?_
          refine lv_goto (tgt := 65) hx hb dX9_confirm_61 (by decide) ?_
          exact hj65_14 (1 : Int32) _ _ _ h hP hD hS (lv_sub hl [1, 2] rfl)
      · replace ew : u9 = w' := ew
        subst ew
        refine cX_vS (As := [.int z0_28]) (rest := []) ⟨hx, hb, hml, hown, hts⟩ (kx_X9_needState l hl0 D cI cZ ad u4 z0_28 hc10) (va_cwS 1 hts (gwS mw_471 mw_472 mw_48 mw_473) rfl rfl rfl (by decide +kernel) ⟨Nat.le_of_ble_eq_true rfl, Nat.le_of_ble_eq_true rfl⟩) hK hP hD hS hA hZ rfl hl.1 rfl (Nat.le_of_ble_eq_true rfl) dX9_confirm_28 ⟨Nat.le_of_ble_eq_true rfl, Nat.le_of_ble_eq_true rfl⟩ (fun ce q9 H locs hP hD hS h1 h2 h3 => ?_)
        exact cX_back hAe hQ hout hlocks hK rfl hP hD hS h1 h2 h3 (Nat.le_refl _) (Nat.le_refl _)
    refine lv_if_ne (tgt := 27) hx hb dX9_confirm_20 (by decide) (fun c19 => ?_) (fun c19 => ?_)
    · replace h := gx_f c19 h
      refine lv_iconst (v := 0) hx hb dX9_confirm_27 (by decide) ?_
      exact hj28_7 (0 : Int32) _ _ _ h hP hD hS (lv_sub hl [0, 1] rfl)
    · replace h := gx_t c19 h
      refine lv_iconst (v := 1) hx hb dX9_confirm_23 (by decide) ?_
      refine lv_goto (tgt := 28) hx hb dX9_confirm_24 (by decide) ?_
      exact hj28_7 (1 : Int32) _ _ _ h hP hD hS (lv_sub hl [0, 1] rfl)
  · replace ew : u4 = w' := ew
    subst ew
    refine cX_vS (As := [.int y1]) (rest := []) ⟨hx, hb, hml, hown, hts⟩ (kx_X9_needIndex l hl0 D cI cZ ad u y1 hc5) (va_cwS 1 hts (gwS mw_598 mw_599 mw_48 mw_600) rfl rfl rfl (by decide +kernel) ⟨Nat.le_of_ble_eq_true rfl, Nat.le_of_ble_eq_true rfl⟩) hK hP hD hS hA hZ rfl hl.1 rfl (Nat.le_of_ble_eq_true rfl) dX9_confirm_8 ⟨Nat.le_of_ble_eq_true rfl, Nat.le_of_ble_eq_true rfl⟩ (fun ce q9 H locs hP hD hS h1 h2 h3 => ?_)
    exact cX_back hAe hQ hout hlocks hK rfl hP hD hS h1 h2 h3 (Nat.le_refl _) (Nat.le_refl _)

def rX9_incident : Room := { frames := 3, cells := 0, slots := 0, locals := 64 }
set_option maxHeartbeats 4000000 in
set_option maxRecDepth 100000 in
theorem k_X9_incident (l : Launch) (D : va_G) (cI cZ : ClassId) (ad : Nat → Nat) (u : GS) (p0 : Int32) (p1 : Int32) {r : Int32} {w' : GS} (h : g_X9_incident u p0 p1 = some (.inl r, w')) : MI l yX9_incident (wm yX9_incident cX9_incident 3 (some .int)) rX9_incident D [(cI, .int), (cZ, .boolean)] (wC cI cZ ad u) (wC cI cZ ad w') [.ref (ad 0), .int p0, .int p1] r := by
  intro sz
  refine Met.ofW (cc := cX9_incident) (maxL := 3) (ret := (some .int)) (by decide) rfl ?_
  intro p e s m args below meth c s₁ B hml hv
  obtain ⟨rfl, hsz, hP, hK, hD0, hZ⟩ := hv
  have hx := B.exec
  have hb := B.bytes
  have hr := B.returns
  have hts : ∀ w ∈ Wall, w.before _ s = true := fun w hw => atoms_spec (ws := wm yX9_incident cX9_incident 3 (some .int)) B.pre w (List.mem_cons_of_mem _ hw)
  have hown : s.vm.findClass RX9 = some m.cls := findClass_of_methodNamed B.named
  have hlocks := B.notSynchronized
  subst hsz
  have hD := hD0.self (sz := s.heap.size)
  generalize hAe : va_A (wC cI cZ ad u) s.heap.size = A at hD hZ ⊢
  have hA : ∀ q : Nat, s.heap.size ≤ q → A q := fun q h => by rw [← hAe]; exact Or.inr h
  have hS : va_S A s.heap s.heap [] := va_S.rf
  have hf51 := hts _ mw_310
  have hf209 := hts _ mw_187
  have hf206 := hts _ mw_189
  have hf218 := hts _ mw_191
  have hl := lv_entry ([.ref (ad 0), .int p0, .int p1]) (n := 3) (Nat.le_of_ble_eq_true rfl)
  rw [lg_entry_eq]
  generalize (lg_sl ([.ref (ad 0), .int p0, .int p1]) ++ List.replicate (3 - (lg_sl ([.ref (ad 0), .int p0, .int p1])).length) Slot.unset).toArray = ls at hl ⊢
  replace hl : lv_has ls 3 [(0, .ref (ad 0)), (1, .int p0), (2, .int p1)] := hl
  refine w_gen (fun Q hQ => ?_)
  refine lv_aload_n hx hb dX9_incident_0 rfl (lv_at hl 0 rfl) ?_
  refine va_get (D := D) (ci := 9) (v := .ref (ad 6)) (C := RX9) (T := TX9) (N := 10) hx hb hts iX9 hown hK hP 0 rfl rfl 6 (by decide) hf51 (fun _ h9 => h9) rfl dX9_incident_1 ?_
  refine lv_iload_n hx hb dX9_incident_4 rfl (lv_at hl 1 rfl) ?_
  obtain ⟨y1, hc2, h⟩ := gx_bind h
  refine cc_iV (As := [.int p0]) (rest := []) ⟨hx, hb, hml, hown, hts⟩ (k_X2_has l D cI cZ ad u p0 hc2) (cwV 1 hts (gwV mw_502 mw_503 mw_504 mw_54 mw_505) rfl rfl rfl (by decide +kernel) ⟨Nat.le_of_ble_eq_true rfl, Nat.le_of_ble_eq_true rfl⟩) hK hP hD hS hA hZ (ci := 2) (q0 := 6) rfl rfl rfl hl.1 rfl (Nat.le_of_ble_eq_true rfl) dX9_incident_5 ⟨Nat.zero_le _, Nat.zero_le _⟩ (fun H locs hP hD hS => ?_)
  obtain ⟨y3, u4, hc5, h⟩ := gx_xr h
  refine cc_vS (As := [.int y1]) (rest := []) ⟨hx, hb, hml, hown, hts⟩ (k_X9_needIndex l D cI cZ ad u y1 hc5) (va_cwS 1 hts (gwS mw_598 mw_599 mw_48 mw_600) rfl rfl rfl (by decide +kernel) ⟨Nat.le_of_ble_eq_true rfl, Nat.le_of_ble_eq_true rfl⟩) hK hP hD hS hA hZ rfl hl.1 rfl (Nat.le_of_ble_eq_true rfl) dX9_incident_8 ⟨Nat.zero_le _, Nat.zero_le _⟩ (fun H locs hP hD hS => ?_)
  refine lv_iload_n hx hb dX9_incident_11 rfl (lv_at hl 2 rfl) ?_
  refine lv_iconst (v := 0) hx hb dX9_incident_12 (by decide) ?_
  refine lv_iconst (v := 3) hx hb dX9_incident_13 (by decide) ?_
  obtain ⟨y6, hc7, h⟩ := gx_bind h
  refine cc_iS (As := [.int p1, .int (0 : Int32), .int (3 : Int32)]) (rest := []) ⟨hx, hb, hml, hown, hts⟩ (k_X9_isWithin l D cI cZ ad u4 p1 (0 : Int32) (3 : Int32) hc7) (va_cwS 3 hts (gwS mw_391 mw_273 mw_48 mw_274) rfl rfl rfl (by decide +kernel) ⟨Nat.le_of_ble_eq_true rfl, Nat.le_of_ble_eq_true rfl⟩) hK hP hD hS hA hZ rfl hl.1 rfl (Nat.le_of_ble_eq_true rfl) dX9_incident_14 ⟨Nat.zero_le _, Nat.zero_le _⟩ (fun H locs hP hD hS => ?_)
  obtain ⟨y8, u9, hc10, h⟩ := gx_xr h
  refine cc_vS (As := [.int y6]) (rest := []) ⟨hx, hb, hml, hown, hts⟩ (k_X9_needArgument l D cI cZ ad u4 y6 hc10) (va_cwS 1 hts (gwS mw_392 mw_393 mw_48 mw_394) rfl rfl rfl (by decide +kernel) ⟨Nat.le_of_ble_eq_true rfl, Nat.le_of_ble_eq_true rfl⟩) hK hP hD hS hA hZ rfl hl.1 rfl (Nat.le_of_ble_eq_true rfl) dX9_incident_17 ⟨Nat.zero_le _, Nat.zero_le _⟩ (fun H locs hP hD hS => ?_)
  refine lv_iload_n hx hb dX9_incident_20 rfl (lv_at hl 2 rfl) ?_
  by_cases c21_0 : p1 = 0
  · replace h := gx_t c21_0 h
    refine lv_tableIn (tgt := 48) (off := 27) hx hb dX9_incident_21 (by rw [c21_0]; decide) (by rw [c21_0]; decide) (by rw [c21_0]; decide) (by decide) ?_
    refine lv_aload_n hx hb dX9_incident_48 rfl (lv_at hl 0 rfl) ?_
    refine va_get (D := D) (ci := 9) (v := .ref (ad 6)) (C := RX9) (T := TX9) (N := 10) hx hb hts iX9 hown hK hP 0 rfl rfl 6 (by decide) hf51 (fun _ h9 => h9) rfl dX9_incident_49 ?_
    refine lv_iload_n hx hb dX9_incident_52 rfl (lv_at hl 1 rfl) ?_
    obtain ⟨y11, hc12, h⟩ := gx_bind h
    refine cc_iV (As := [.int p0]) (rest := []) ⟨hx, hb, hml, hown, hts⟩ (k_X2_sectionOf l D cI cZ ad u9 p0 hc12) (cwV 1 hts (gwV mw_511 mw_512 mw_513 mw_54 mw_514) rfl rfl rfl (by decide +kernel) ⟨Nat.le_of_ble_eq_true rfl, Nat.le_of_ble_eq_true rfl⟩) hK hP hD hS hA hZ (ci := 2) (q0 := 6) rfl rfl rfl hl.1 rfl (Nat.le_of_ble_eq_true rfl) dX9_incident_53 ⟨Nat.zero_le _, Nat.zero_le _⟩ (fun H locs hP hD hS => ?_)
    cases h
    exact cc_ret hx hb hr rfl hQ hK hP hD hS rfl dX9_incident_56 hlocks
  · replace h := gx_f c21_0 h
    by_cases c21_1 : p1 = 1
    · replace h := gx_t c21_1 h
      refine lv_tableIn (tgt := 57) (off := 36) hx hb dX9_incident_21 (by rw [c21_1]; decide) (by rw [c21_1]; decide) (by rw [c21_1]; decide) (by decide) ?_
      refine lv_aload_n hx hb dX9_incident_57 rfl (lv_at hl 0 rfl) ?_
      refine va_get (D := D) (ci := 9) (v := .ref (ad 6)) (C := RX9) (T := TX9) (N := 10) hx hb hts iX9 hown hK hP 0 rfl rfl 6 (by decide) hf51 (fun _ h9 => h9) rfl dX9_incident_58 ?_
      refine va_get (D := D) (ci := 2) (v := .ref (ad 23)) (C := RX2) (T := TX2) (N := 4) hx hb hts iX2 hown hK hP 6 rfl rfl 0 (by decide) hf209 (fun _ h9 => h9) rfl dX9_incident_61 ?_
      refine lv_iload_n hx hb dX9_incident_64 rfl (lv_at hl 1 rfl) ?_
      obtain ⟨b13, h⟩ := gx_in h
      refine va_iald (D := D) hx hb hK hP 23 0 rfl rfl b13 dX9_incident_65 ?_
      refine lv_iconst (v := 4) hx hb dX9_incident_66 (by decide) ?_
      obtain ⟨v14, ev14, h⟩ := gx_let h
      have e_v14 := congrArg (fun z => Value.int z) ev14
      rw [ev14]
      refine lv_irem hx hb dX9_incident_67 (by decide) ?_
      cases h
      exact cc_ret hx hb hr rfl hQ hK hP hD hS rfl dX9_incident_68 hlocks
    · replace h := gx_f c21_1 h
      by_cases c21_2 : p1 = 2
      · replace h := gx_t c21_2 h
        refine lv_tableIn (tgt := 69) (off := 48) hx hb dX9_incident_21 (by rw [c21_2]; decide) (by rw [c21_2]; decide) (by rw [c21_2]; decide) (by decide) ?_
        refine lv_aload_n hx hb dX9_incident_69 rfl (lv_at hl 0 rfl) ?_
        refine va_get (D := D) (ci := 9) (v := .ref (ad 6)) (C := RX9) (T := TX9) (N := 10) hx hb hts iX9 hown hK hP 0 rfl rfl 6 (by decide) hf51 (fun _ h9 => h9) rfl dX9_incident_70 ?_
        refine va_get (D := D) (ci := 2) (v := .ref (ad 24)) (C := RX2) (T := TX2) (N := 4) hx hb hts iX2 hown hK hP 6 rfl rfl 1 (by decide) hf206 (fun _ h9 => h9) rfl dX9_incident_73 ?_
        refine lv_iload_n hx hb dX9_incident_76 rfl (lv_at hl 1 rfl) ?_
        obtain ⟨b15, h⟩ := gx_in h
        refine va_iald (D := D) hx hb hK hP 24 0 rfl rfl b15 dX9_incident_77 ?_
        cases h
        exact cc_ret hx hb hr rfl hQ hK hP hD hS rfl dX9_incident_78 hlocks
      · replace h := gx_f c21_2 h
        have t21_0 := gx_sw0 (n := 0) rfl c21_0
        have t21_1 := gx_sw0 (n := 1) rfl c21_1
        have t21_2 := gx_sw0 (n := 2) rfl c21_2
        refine lv_tableOut (tgt := 79) hx hb dX9_incident_21 (by omega) (by decide) ?_
        refine lv_aload_n hx hb dX9_incident_79 rfl (lv_at hl 0 rfl) ?_
        refine va_get (D := D) (ci := 9) (v := .ref (ad 6)) (C := RX9) (T := TX9) (N := 10) hx hb hts iX9 hown hK hP 0 rfl rfl 6 (by decide) hf51 (fun _ h9 => h9) rfl dX9_incident_80 ?_
        refine va_get (D := D) (ci := 2) (v := .ref (ad 25)) (C := RX2) (T := TX2) (N := 4) hx hb hts iX2 hown hK hP 6 rfl rfl 2 (by decide) hf218 (fun _ h9 => h9) rfl dX9_incident_83 ?_
        refine lv_iload_n hx hb dX9_incident_86 rfl (lv_at hl 1 rfl) ?_
        obtain ⟨b16, h⟩ := gx_in h
        refine va_iald (D := D) hx hb hK hP 25 0 rfl rfl b16 dX9_incident_87 ?_
        cases h
        exact cc_ret hx hb hr rfl hQ hK hP hD hS rfl dX9_incident_88 hlocks

def rx_X9_incident : Room := { frames := 7, cells := 1, slots := 6, locals := 110 }
set_option maxHeartbeats 4000000 in
set_option maxRecDepth 100000 in
theorem kx_X9_incident (l : Launch) (hl0 : l.stackTraces = false) (D : va_G) (cI cZ : ClassId) (ad : Nat → Nat) (u : GS) (p0 : Int32) (p1 : Int32) {E : String} {w' : GS} (h : g_X9_incident u p0 p1 = some (.inr E, w')) : XI l yX9_incident (wm yX9_incident cX9_incident 3 (some .int)) rx_X9_incident D [(cI, .int), (cZ, .boolean)] (wC cI cZ ad u) (wC cI cZ ad w') [.ref (ad 0), .int p0, .int p1] E := by
  intro sz
  refine vx_ofW (cc := cX9_incident) (maxL := 3) (ret := (some .int)) (by decide) rfl ?_
  intro p e s m args below meth c s₁ B hml hout hv
  obtain ⟨rfl, hsz, hP, hK, hD0, hZ⟩ := hv
  have hx := B.exec
  have hb := B.bytes
  have hts : ∀ w ∈ Wall, w.before _ s = true := fun w hw => atoms_spec (ws := wm yX9_incident cX9_incident 3 (some .int)) B.pre w (List.mem_cons_of_mem _ hw)
  have hown : s.vm.findClass RX9 = some m.cls := findClass_of_methodNamed B.named
  have hlocks := B.notSynchronized
  subst hsz
  have hD := hD0.self (sz := s.heap.size)
  generalize hAe : va_A (wC cI cZ ad u) s.heap.size = A at hD hZ
  have hA : ∀ q : Nat, s.heap.size ≤ q → A q := fun q h => by rw [← hAe]; exact Or.inr h
  have hS : va_S A s.heap s.heap [] := va_S.rf
  have hf51 := hts _ mw_310
  have hf209 := hts _ mw_187
  have hf206 := hts _ mw_189
  have hf218 := hts _ mw_191
  have hl := lv_entry ([.ref (ad 0), .int p0, .int p1]) (n := 3) (Nat.le_of_ble_eq_true rfl)
  rw [lg_entry_eq]
  generalize (lg_sl ([.ref (ad 0), .int p0, .int p1]) ++ List.replicate (3 - (lg_sl ([.ref (ad 0), .int p0, .int p1])).length) Slot.unset).toArray = ls at hl ⊢
  replace hl : lv_has ls 3 [(0, .ref (ad 0)), (1, .int p0), (2, .int p1)] := hl
  refine w_gen (fun Q hQ => ?_)
  refine lv_aload_n hx hb dX9_incident_0 rfl (lv_at hl 0 rfl) ?_
  refine va_get (D := D) (ci := 9) (v := .ref (ad 6)) (C := RX9) (T := TX9) (N := 10) hx hb hts iX9 hown hK hP 0 rfl rfl 6 (by decide) hf51 (fun _ h9 => h9) rfl dX9_incident_1 ?_
  refine lv_iload_n hx hb dX9_incident_4 rfl (lv_at hl 1 rfl) ?_
  obtain ⟨y1, hc2, h⟩ := gx_bind h
  refine cc_iV (As := [.int p0]) (rest := []) ⟨hx, hb, hml, hown, hts⟩ (k_X2_has l D cI cZ ad u p0 hc2) (cwV 1 hts (gwV mw_502 mw_503 mw_504 mw_54 mw_505) rfl rfl rfl (by decide +kernel) ⟨Nat.le_of_ble_eq_true rfl, Nat.le_of_ble_eq_true rfl⟩) hK hP hD hS hA hZ (ci := 2) (q0 := 6) rfl rfl rfl hl.1 rfl (Nat.le_of_ble_eq_true rfl) dX9_incident_5 ⟨Nat.zero_le _, Nat.zero_le _⟩ (fun H locs hP hD hS => ?_)
  rcases gx_xx h with ⟨y3, u4, hc5, h⟩ | ⟨u4, hc5, ew⟩
  · refine cc_vS (As := [.int y1]) (rest := []) ⟨hx, hb, hml, hown, hts⟩ (k_X9_needIndex l D cI cZ ad u y1 hc5) (va_cwS 1 hts (gwS mw_598 mw_599 mw_48 mw_600) rfl rfl rfl (by decide +kernel) ⟨Nat.le_of_ble_eq_true rfl, Nat.le_of_ble_eq_true rfl⟩) hK hP hD hS hA hZ rfl hl.1 rfl (Nat.le_of_ble_eq_true rfl) dX9_incident_8 ⟨Nat.zero_le _, Nat.zero_le _⟩ (fun H locs hP hD hS => ?_)
    refine lv_iload_n hx hb dX9_incident_11 rfl (lv_at hl 2 rfl) ?_
    refine lv_iconst (v := 0) hx hb dX9_incident_12 (by decide) ?_
    refine lv_iconst (v := 3) hx hb dX9_incident_13 (by decide) ?_
    obtain ⟨y6, hc7, h⟩ := gx_bind h
    refine cc_iS (As := [.int p1, .int (0 : Int32), .int (3 : Int32)]) (rest := []) ⟨hx, hb, hml, hown, hts⟩ (k_X9_isWithin l D cI cZ ad u4 p1 (0 : Int32) (3 : Int32) hc7) (va_cwS 3 hts (gwS mw_391 mw_273 mw_48 mw_274) rfl rfl rfl (by decide +kernel) ⟨Nat.le_of_ble_eq_true rfl, Nat.le_of_ble_eq_true rfl⟩) hK hP hD hS hA hZ rfl hl.1 rfl (Nat.le_of_ble_eq_true rfl) dX9_incident_14 ⟨Nat.zero_le _, Nat.zero_le _⟩ (fun H locs hP hD hS => ?_)
    rcases gx_xx h with ⟨y8, u9, hc10, h⟩ | ⟨u9, hc10, ew⟩
    · refine cc_vS (As := [.int y6]) (rest := []) ⟨hx, hb, hml, hown, hts⟩ (k_X9_needArgument l D cI cZ ad u4 y6 hc10) (va_cwS 1 hts (gwS mw_392 mw_393 mw_48 mw_394) rfl rfl rfl (by decide +kernel) ⟨Nat.le_of_ble_eq_true rfl, Nat.le_of_ble_eq_true rfl⟩) hK hP hD hS hA hZ rfl hl.1 rfl (Nat.le_of_ble_eq_true rfl) dX9_incident_17 ⟨Nat.zero_le _, Nat.zero_le _⟩ (fun H locs hP hD hS => ?_)
      refine lv_iload_n hx hb dX9_incident_20 rfl (lv_at hl 2 rfl) ?_
      by_cases c21_0 : p1 = 0
      · replace h := gx_t c21_0 h
        refine lv_tableIn (tgt := 48) (off := 27) hx hb dX9_incident_21 (by rw [c21_0]; decide) (by rw [c21_0]; decide) (by rw [c21_0]; decide) (by decide) ?_
        refine lv_aload_n hx hb dX9_incident_48 rfl (lv_at hl 0 rfl) ?_
        refine va_get (D := D) (ci := 9) (v := .ref (ad 6)) (C := RX9) (T := TX9) (N := 10) hx hb hts iX9 hown hK hP 0 rfl rfl 6 (by decide) hf51 (fun _ h9 => h9) rfl dX9_incident_49 ?_
        refine lv_iload_n hx hb dX9_incident_52 rfl (lv_at hl 1 rfl) ?_
        obtain ⟨y11, hc12, h⟩ := gx_bind h
        refine cc_iV (As := [.int p0]) (rest := []) ⟨hx, hb, hml, hown, hts⟩ (k_X2_sectionOf l D cI cZ ad u9 p0 hc12) (cwV 1 hts (gwV mw_511 mw_512 mw_513 mw_54 mw_514) rfl rfl rfl (by decide +kernel) ⟨Nat.le_of_ble_eq_true rfl, Nat.le_of_ble_eq_true rfl⟩) hK hP hD hS hA hZ (ci := 2) (q0 := 6) rfl rfl rfl hl.1 rfl (Nat.le_of_ble_eq_true rfl) dX9_incident_53 ⟨Nat.zero_le _, Nat.zero_le _⟩ (fun H locs hP hD hS => ?_)
        cases h
      · replace h := gx_f c21_0 h
        by_cases c21_1 : p1 = 1
        · replace h := gx_t c21_1 h
          refine lv_tableIn (tgt := 57) (off := 36) hx hb dX9_incident_21 (by rw [c21_1]; decide) (by rw [c21_1]; decide) (by rw [c21_1]; decide) (by decide) ?_
          refine lv_aload_n hx hb dX9_incident_57 rfl (lv_at hl 0 rfl) ?_
          refine va_get (D := D) (ci := 9) (v := .ref (ad 6)) (C := RX9) (T := TX9) (N := 10) hx hb hts iX9 hown hK hP 0 rfl rfl 6 (by decide) hf51 (fun _ h9 => h9) rfl dX9_incident_58 ?_
          refine va_get (D := D) (ci := 2) (v := .ref (ad 23)) (C := RX2) (T := TX2) (N := 4) hx hb hts iX2 hown hK hP 6 rfl rfl 0 (by decide) hf209 (fun _ h9 => h9) rfl dX9_incident_61 ?_
          refine lv_iload_n hx hb dX9_incident_64 rfl (lv_at hl 1 rfl) ?_
          obtain ⟨b13, h⟩ := gx_in h
          refine va_iald (D := D) hx hb hK hP 23 0 rfl rfl b13 dX9_incident_65 ?_
          refine lv_iconst (v := 4) hx hb dX9_incident_66 (by decide) ?_
          obtain ⟨v14, ev14, h⟩ := gx_let h
          have e_v14 := congrArg (fun z => Value.int z) ev14
          rw [ev14]
          refine lv_irem hx hb dX9_incident_67 (by decide) ?_
          cases h
        · replace h := gx_f c21_1 h
          by_cases c21_2 : p1 = 2
          · replace h := gx_t c21_2 h
            refine lv_tableIn (tgt := 69) (off := 48) hx hb dX9_incident_21 (by rw [c21_2]; decide) (by rw [c21_2]; decide) (by rw [c21_2]; decide) (by decide) ?_
            refine lv_aload_n hx hb dX9_incident_69 rfl (lv_at hl 0 rfl) ?_
            refine va_get (D := D) (ci := 9) (v := .ref (ad 6)) (C := RX9) (T := TX9) (N := 10) hx hb hts iX9 hown hK hP 0 rfl rfl 6 (by decide) hf51 (fun _ h9 => h9) rfl dX9_incident_70 ?_
            refine va_get (D := D) (ci := 2) (v := .ref (ad 24)) (C := RX2) (T := TX2) (N := 4) hx hb hts iX2 hown hK hP 6 rfl rfl 1 (by decide) hf206 (fun _ h9 => h9) rfl dX9_incident_73 ?_
            refine lv_iload_n hx hb dX9_incident_76 rfl (lv_at hl 1 rfl) ?_
            obtain ⟨b15, h⟩ := gx_in h
            refine va_iald (D := D) hx hb hK hP 24 0 rfl rfl b15 dX9_incident_77 ?_
            cases h
          · replace h := gx_f c21_2 h
            have t21_0 := gx_sw0 (n := 0) rfl c21_0
            have t21_1 := gx_sw0 (n := 1) rfl c21_1
            have t21_2 := gx_sw0 (n := 2) rfl c21_2
            refine lv_tableOut (tgt := 79) hx hb dX9_incident_21 (by omega) (by decide) ?_
            refine lv_aload_n hx hb dX9_incident_79 rfl (lv_at hl 0 rfl) ?_
            refine va_get (D := D) (ci := 9) (v := .ref (ad 6)) (C := RX9) (T := TX9) (N := 10) hx hb hts iX9 hown hK hP 0 rfl rfl 6 (by decide) hf51 (fun _ h9 => h9) rfl dX9_incident_80 ?_
            refine va_get (D := D) (ci := 2) (v := .ref (ad 25)) (C := RX2) (T := TX2) (N := 4) hx hb hts iX2 hown hK hP 6 rfl rfl 2 (by decide) hf218 (fun _ h9 => h9) rfl dX9_incident_83 ?_
            refine lv_iload_n hx hb dX9_incident_86 rfl (lv_at hl 1 rfl) ?_
            obtain ⟨b16, h⟩ := gx_in h
            refine va_iald (D := D) hx hb hK hP 25 0 rfl rfl b16 dX9_incident_87 ?_
            cases h
    · replace ew : u9 = w' := ew
      subst ew
      refine cX_vS (As := [.int y6]) (rest := []) ⟨hx, hb, hml, hown, hts⟩ (kx_X9_needArgument l hl0 D cI cZ ad u4 y6 hc10) (va_cwS 1 hts (gwS mw_392 mw_393 mw_48 mw_394) rfl rfl rfl (by decide +kernel) ⟨Nat.le_of_ble_eq_true rfl, Nat.le_of_ble_eq_true rfl⟩) hK hP hD hS hA hZ rfl hl.1 rfl (Nat.le_of_ble_eq_true rfl) dX9_incident_17 ⟨Nat.le_of_ble_eq_true rfl, Nat.le_of_ble_eq_true rfl⟩ (fun ce q9 H locs hP hD hS h1 h2 h3 => ?_)
      exact cX_back hAe hQ hout hlocks hK rfl hP hD hS h1 h2 h3 (Nat.le_refl _) (Nat.le_refl _)
  · replace ew : u4 = w' := ew
    subst ew
    refine cX_vS (As := [.int y1]) (rest := []) ⟨hx, hb, hml, hown, hts⟩ (kx_X9_needIndex l hl0 D cI cZ ad u y1 hc5) (va_cwS 1 hts (gwS mw_598 mw_599 mw_48 mw_600) rfl rfl rfl (by decide +kernel) ⟨Nat.le_of_ble_eq_true rfl, Nat.le_of_ble_eq_true rfl⟩) hK hP hD hS hA hZ rfl hl.1 rfl (Nat.le_of_ble_eq_true rfl) dX9_incident_8 ⟨Nat.le_of_ble_eq_true rfl, Nat.le_of_ble_eq_true rfl⟩ (fun ce q9 H locs hP hD hS h1 h2 h3 => ?_)
    exact cX_back hAe hQ hout hlocks hK rfl hP hD hS h1 h2 h3 (Nat.le_refl _) (Nat.le_refl _)

def rX9_pattern : Room := { frames := 4, cells := 0, slots := 0, locals := 94 }
set_option maxHeartbeats 4000000 in
set_option maxRecDepth 100000 in
theorem k_X9_pattern (l : Launch) (D : va_G) (cI cZ : ClassId) (ad : Nat → Nat) (u : GS) {r : Int32} (h : g_X9_pattern u = some r) : MI l yX9_pattern (wm yX9_pattern cX9_pattern 3 (some .int)) rX9_pattern D [(cI, .int), (cZ, .boolean)] (wC cI cZ ad u) (wC cI cZ ad u) [.ref (ad 0)] r := by
  intro sz
  refine Met.ofW (cc := cX9_pattern) (maxL := 3) (ret := (some .int)) (by decide) rfl ?_
  intro p e s m args below meth c s₁ B hml hv
  obtain ⟨rfl, hsz, hP, hK, hD0, hZ⟩ := hv
  have hx := B.exec
  have hb := B.bytes
  have hr := B.returns
  have hts : ∀ w ∈ Wall, w.before _ s = true := fun w hw => atoms_spec (ws := wm yX9_pattern cX9_pattern 3 (some .int)) B.pre w (List.mem_cons_of_mem _ hw)
  have hown : s.vm.findClass RX9 = some m.cls := findClass_of_methodNamed B.named
  have hlocks := B.notSynchronized
  subst hsz
  have hD := hD0.self (sz := s.heap.size)
  generalize hAe : va_A (wC cI cZ ad u) s.heap.size = A at hD hZ ⊢
  have hA : ∀ q : Nat, s.heap.size ≤ q → A q := fun q h => by rw [← hAe]; exact Or.inr h
  have hS : va_S A s.heap s.heap [] := va_S.rf
  have hf23 := hts _ mw_306
  have hf16 := hts _ mw_305
  have hl := lv_entry ([.ref (ad 0)]) (n := 3) (Nat.le_of_ble_eq_true rfl)
  rw [lg_entry_eq]
  generalize (lg_sl ([.ref (ad 0)]) ++ List.replicate (3 - (lg_sl ([.ref (ad 0)])).length) Slot.unset).toArray = ls at hl ⊢
  replace hl : lv_has ls 3 [(0, .ref (ad 0))] := hl
  refine w_gen (fun Q hQ => ?_)
  refine lv_iconst (v := 0) hx hb dX9_pattern_0 (by decide) ?_
  refine lv_istore_n (lv' := [(1, .int (0 : Int32)), (0, .ref (ad 0))]) hx hb dX9_pattern_1 rfl hl (by decide) rfl (fun ls hl => ?_)
  have hL2 : ∀ (k : Unit → Option (Int32)) (hk : ∀ (H : Heap) (locs : List Loc) (ls : Array Slot), k () = some r → va_P D vwCl (wC cI cZ ad u) H → va_D A (wC cI cZ ad u) → va_S A s.heap H locs → lv_has ls 3 [] → W p l e rX9_pattern s m ([.ref (ad 0)] : List Value).toArray below meth c H locs 0 0 Q (F0 m 59 ls [])) (n : Nat) (x1_2 : Int32) (H : Heap) (locs : List Loc) (ls : Array Slot), lp_X9_pattern_2 u k n x1_2 = some r → va_P D vwCl (wC cI cZ ad u) H → va_D A (wC cI cZ ad u) → va_S A s.heap H locs → lv_has ls 3 [(0, .ref (ad 0)), (1, .int x1_2)] → W p l e rX9_pattern s m ([.ref (ad 0)] : List Value).toArray below meth c H locs 0 0 Q (F0 m 2 ls []) := by
    intro k hk n
    induction n with
    | zero =>
      intro x1_2 H locs ls h
      rw [lp_X9_pattern_2] at h
      cases h
    | succ n ih =>
      intro x1_2 H locs ls h hP hD hS hl
      rw [lp_X9_pattern_2] at h
      refine lv_iload_n hx hb dX9_pattern_2 rfl (lv_at hl 1 rfl) ?_
      refine lv_bipush (v := 11) hx hb dX9_pattern_3 (by decide) ?_
      refine lv_icmp_ge (tgt := 59) hx hb dX9_pattern_5 (by decide) (fun c1 => ?_) (fun c1 => ?_)
      · replace h := gx_t c1 h
        exact hk _ _ _ h hP hD hS (lv_sub hl [] rfl)
      · replace h := gx_f c1 h
        refine lv_aload_n hx hb dX9_pattern_8 rfl (lv_at hl 0 rfl) ?_
        refine va_get (D := D) (ci := 9) (v := .ref (ad 2)) (C := RX9) (T := TX9) (N := 10) hx hb hts iX9 hown hK hP 0 rfl rfl 2 (by decide) hf23 (fun _ h9 => h9) rfl dX9_pattern_9 ?_
        refine lv_iload_n hx hb dX9_pattern_12 rfl (lv_at hl 1 rfl) ?_
        refine lv_aload_n hx hb dX9_pattern_13 rfl (lv_at hl 0 rfl) ?_
        refine va_get (D := D) (ci := 9) (v := .ref (ad 1)) (C := RX9) (T := TX9) (N := 10) hx hb hts iX9 hown hK hP 0 rfl rfl 1 (by decide) hf16 (fun _ h9 => h9) rfl dX9_pattern_14 ?_
        obtain ⟨y2, hc3, h⟩ := gx_bind h
        refine cc_iV (As := [.int x1_2, .ref (ad 1)]) (rest := []) ⟨hx, hb, hml, hown, hts⟩ (k_X1_beliefAt l D cI cZ ad u x1_2 hc3) (cwV 2 hts (gwV mw_363 mw_364 mw_365 mw_50 mw_366) rfl rfl rfl (by decide +kernel) ⟨Nat.le_of_ble_eq_true rfl, Nat.le_of_ble_eq_true rfl⟩) hK hP hD hS hA hZ (ci := 1) (q0 := 2) rfl rfl rfl hl.1 rfl (Nat.le_of_ble_eq_true rfl) dX9_pattern_17 ⟨Nat.zero_le _, Nat.zero_le _⟩ (fun H locs hP hD hS => ?_)
        refine lv_istore_n (lv' := [(2, .int y2), (0, .ref (ad 0)), (1, .int x1_2)]) hx hb dX9_pattern_20 rfl hl (by decide) rfl (fun ls hl => ?_)
        refine lv_iload_n hx hb dX9_pattern_21 rfl (lv_at hl 0 rfl) ?_
        refine lv_iconst (v := (-1)) hx hb dX9_pattern_22 (by decide) ?_
        obtain ⟨j53_4, ej53_4, h⟩ := gx_let h
        have hj53_4 : ∀ (H : Heap) (locs : List Loc) (ls : Array Slot), j53_4 () = some r → va_P D vwCl (wC cI cZ ad u) H → va_D A (wC cI cZ ad u) → va_S A s.heap H locs → lv_has ls 3 [(0, .ref (ad 0)), (1, .int x1_2)] → W p l e rX9_pattern s m ([.ref (ad 0)] : List Value).toArray below meth c H locs 0 0 Q (F0 m 53 ls []) := by
          intro  H locs ls h hP hD hS hl
          subst ej53_4
          obtain ⟨v5, ev5, h⟩ := gx_let h
          refine lv_iinc (v := v5) (lv' := [(1, .int v5), (0, .ref (ad 0))]) hx hb dX9_pattern_53 hl (k := 1) rfl (by rw [← ev5]; rfl) (by decide) rfl (fun ls hl => ?_)
          refine lv_goto (tgt := 2) hx hb dX9_pattern_56 (by decide) ?_
          exact ih v5 _ _ _ h hP hD hS (lv_sub hl [1, 0] rfl)
        refine lv_icmp_eq (tgt := 53) hx hb dX9_pattern_23 (by decide) (fun c6 => ?_) (fun c6 => ?_)
        · replace h := gx_t c6 h
          exact hj53_4 _ _ _ h hP hD hS (lv_sub hl [1, 2] rfl)
        · replace h := gx_f c6 h
          refine lv_iload_n hx hb dX9_pattern_26 rfl (lv_at hl 0 rfl) ?_
          refine lv_bipush (v := 40) hx hb dX9_pattern_27 (by decide) ?_
          refine lv_icmp_ge (tgt := 53) hx hb dX9_pattern_29 (by decide) (fun c7 => ?_) (fun c7 => ?_)
          · replace h := gx_t c7 h
            exact hj53_4 _ _ _ h hP hD hS (lv_sub hl [1, 2] rfl)
          · replace h := gx_f c7 h
            refine lv_aload_n hx hb dX9_pattern_32 rfl (lv_at hl 1 rfl) ?_
            refine va_get (D := D) (ci := 9) (v := .ref (ad 2)) (C := RX9) (T := TX9) (N := 10) hx hb hts iX9 hown hK hP 0 rfl rfl 2 (by decide) hf23 (fun _ h9 => h9) rfl dX9_pattern_33 ?_
            refine lv_iload_n hx hb dX9_pattern_36 rfl (lv_at hl 2 rfl) ?_
            refine lv_iconst (v := 1) hx hb dX9_pattern_37 (by decide) ?_
            refine lv_iadd hx hb dX9_pattern_38 ?_
            refine lv_aload_n hx hb dX9_pattern_39 rfl (lv_at hl 1 rfl) ?_
            refine va_get (D := D) (ci := 9) (v := .ref (ad 1)) (C := RX9) (T := TX9) (N := 10) hx hb hts iX9 hown hK hP 0 rfl rfl 1 (by decide) hf16 (fun _ h9 => h9) rfl dX9_pattern_40 ?_
            obtain ⟨y8, hc9, h⟩ := gx_bind h
            refine cc_iV (As := [.int (x1_2 + (1 : Int32)), .ref (ad 1)]) (rest := []) ⟨hx, hb, hml, hown, hts⟩ (k_X1_beliefAt l D cI cZ ad u (x1_2 + (1 : Int32)) hc9) (cwV 2 hts (gwV mw_363 mw_364 mw_365 mw_50 mw_366) rfl rfl rfl (by decide +kernel) ⟨Nat.le_of_ble_eq_true rfl, Nat.le_of_ble_eq_true rfl⟩) hK hP hD hS hA hZ (ci := 1) (q0 := 2) rfl rfl rfl hl.1 rfl (Nat.le_of_ble_eq_true rfl) dX9_pattern_43 ⟨Nat.zero_le _, Nat.zero_le _⟩ (fun H locs hP hD hS => ?_)
            refine lv_bipush (v := 80) hx hb dX9_pattern_46 (by decide) ?_
            refine lv_icmp_lt (tgt := 53) hx hb dX9_pattern_48 (by decide) (fun c10 => ?_) (fun c10 => ?_)
            · replace h := gx_t c10 h
              exact hj53_4 _ _ _ h hP hD hS (lv_sub hl [1, 2] rfl)
            · replace h := gx_f c10 h
              refine lv_iload_n hx hb dX9_pattern_51 rfl (lv_at hl 2 rfl) ?_
              cases h
              exact cc_ret hx hb hr rfl hQ hK hP hD hS rfl dX9_pattern_52 hlocks
  refine hL2 _ (fun H locs ls h hP hD hS hl => ?_) FU (0 : Int32) _ _ _ h hP hD hS (lv_sub hl [1, 0] rfl)
  refine lv_iconst (v := (-1)) hx hb dX9_pattern_59 (by decide) ?_
  cases h
  exact cc_ret hx hb hr rfl hQ hK hP hD hS rfl dX9_pattern_60 hlocks

def rX9_needPatrol : Room := { frames := 1, cells := 0, slots := 0, locals := 22 }
set_option maxHeartbeats 4000000 in
set_option maxRecDepth 100000 in
theorem k_X9_needPatrol (l : Launch) (D : va_G) (cI cZ : ClassId) (ad : Nat → Nat) (u : GS) (p0 : Int32) {r : Int32} {w' : GS} (h : g_X9_needPatrol u p0 = some (.inl r, w')) : MV l yX9_needPatrol (wm yX9_needPatrol cX9_needPatrol 1 none) rX9_needPatrol D [(cI, .int), (cZ, .boolean)] (wC cI cZ ad u) (wC cI cZ ad w') [.int p0] := by
  intro sz
  refine Met.ofW (cc := cX9_needPatrol) (maxL := 1) (ret := none) (by decide) rfl ?_
  intro p e s m args below meth c s₁ B hml hv
  obtain ⟨rfl, hsz, hP, hK, hD0, hZ⟩ := hv
  have hx := B.exec
  have hb := B.bytes
  have hr := B.returns
  have hts : ∀ w ∈ Wall, w.before _ s = true := fun w hw => atoms_spec (ws := wm yX9_needPatrol cX9_needPatrol 1 none) B.pre w (List.mem_cons_of_mem _ hw)
  have hown : s.vm.findClass RX9 = some m.cls := findClass_of_methodNamed B.named
  have hlocks := B.notSynchronized
  subst hsz
  have hD := hD0.self (sz := s.heap.size)
  generalize hAe : va_A (wC cI cZ ad u) s.heap.size = A at hD hZ ⊢
  have hA : ∀ q : Nat, s.heap.size ≤ q → A q := fun q h => by rw [← hAe]; exact Or.inr h
  have hS : va_S A s.heap s.heap [] := va_S.rf
  have hl := lv_entry ([.int p0]) (n := 1) (Nat.le_of_ble_eq_true rfl)
  rw [lg_entry_eq]
  generalize (lg_sl ([.int p0]) ++ List.replicate (1 - (lg_sl ([.int p0])).length) Slot.unset).toArray = ls at hl ⊢
  replace hl : lv_has ls 1 [(0, .int p0)] := hl
  refine w_gen (fun Q hQ => ?_)
  refine lv_iload_n hx hb dX9_needPatrol_0 rfl (lv_at hl 0 rfl) ?_
  refine lv_iconst (v := 0) hx hb dX9_needPatrol_1 (by decide) ?_
  refine lv_iconst (v := 2) hx hb dX9_needPatrol_2 (by decide) ?_
  obtain ⟨y1, hc2, h⟩ := gx_bind h
  refine cc_iS (As := [.int p0, .int (0 : Int32), .int (2 : Int32)]) (rest := []) ⟨hx, hb, hml, hown, hts⟩ (k_X9_isWithin l D cI cZ ad u p0 (0 : Int32) (2 : Int32) hc2) (va_cwS 3 hts (gwS mw_391 mw_273 mw_48 mw_274) rfl rfl rfl (by decide +kernel) ⟨Nat.le_of_ble_eq_true rfl, Nat.le_of_ble_eq_true rfl⟩) hK hP hD hS hA hZ rfl hl.1 rfl (Nat.le_of_ble_eq_true rfl) dX9_needPatrol_3 ⟨Nat.zero_le _, Nat.zero_le _⟩ (fun H locs hP hD hS => ?_)
  obtain ⟨y3, u4, hc5, h⟩ := gx_xr h
  refine cc_vS (As := [.int y1]) (rest := []) ⟨hx, hb, hml, hown, hts⟩ (k_X9_needIndex l D cI cZ ad u y1 hc5) (va_cwS 1 hts (gwS mw_598 mw_599 mw_48 mw_600) rfl rfl rfl (by decide +kernel) ⟨Nat.le_of_ble_eq_true rfl, Nat.le_of_ble_eq_true rfl⟩) hK hP hD hS hA hZ rfl hl.1 rfl (Nat.le_of_ble_eq_true rfl) dX9_needPatrol_6 ⟨Nat.zero_le _, Nat.zero_le _⟩ (fun H locs hP hD hS => ?_)
  cases h
  exact cc_vret hx hb hr hQ hK hP hD hS dX9_needPatrol_9 hlocks

def rx_X9_needPatrol : Room := { frames := 7, cells := 1, slots := 6, locals := 110 }
set_option maxHeartbeats 4000000 in
set_option maxRecDepth 100000 in
theorem kx_X9_needPatrol (l : Launch) (hl0 : l.stackTraces = false) (D : va_G) (cI cZ : ClassId) (ad : Nat → Nat) (u : GS) (p0 : Int32) {E : String} {w' : GS} (h : g_X9_needPatrol u p0 = some (.inr E, w')) : XV l yX9_needPatrol (wm yX9_needPatrol cX9_needPatrol 1 none) rx_X9_needPatrol D [(cI, .int), (cZ, .boolean)] (wC cI cZ ad u) (wC cI cZ ad w') [.int p0] E := by
  intro sz
  refine vx_ofW (cc := cX9_needPatrol) (maxL := 1) (ret := none) (by decide) rfl ?_
  intro p e s m args below meth c s₁ B hml hout hv
  obtain ⟨rfl, hsz, hP, hK, hD0, hZ⟩ := hv
  have hx := B.exec
  have hb := B.bytes
  have hts : ∀ w ∈ Wall, w.before _ s = true := fun w hw => atoms_spec (ws := wm yX9_needPatrol cX9_needPatrol 1 none) B.pre w (List.mem_cons_of_mem _ hw)
  have hown : s.vm.findClass RX9 = some m.cls := findClass_of_methodNamed B.named
  have hlocks := B.notSynchronized
  subst hsz
  have hD := hD0.self (sz := s.heap.size)
  generalize hAe : va_A (wC cI cZ ad u) s.heap.size = A at hD hZ
  have hA : ∀ q : Nat, s.heap.size ≤ q → A q := fun q h => by rw [← hAe]; exact Or.inr h
  have hS : va_S A s.heap s.heap [] := va_S.rf
  have hl := lv_entry ([.int p0]) (n := 1) (Nat.le_of_ble_eq_true rfl)
  rw [lg_entry_eq]
  generalize (lg_sl ([.int p0]) ++ List.replicate (1 - (lg_sl ([.int p0])).length) Slot.unset).toArray = ls at hl ⊢
  replace hl : lv_has ls 1 [(0, .int p0)] := hl
  refine w_gen (fun Q hQ => ?_)
  refine lv_iload_n hx hb dX9_needPatrol_0 rfl (lv_at hl 0 rfl) ?_
  refine lv_iconst (v := 0) hx hb dX9_needPatrol_1 (by decide) ?_
  refine lv_iconst (v := 2) hx hb dX9_needPatrol_2 (by decide) ?_
  obtain ⟨y1, hc2, h⟩ := gx_bind h
  refine cc_iS (As := [.int p0, .int (0 : Int32), .int (2 : Int32)]) (rest := []) ⟨hx, hb, hml, hown, hts⟩ (k_X9_isWithin l D cI cZ ad u p0 (0 : Int32) (2 : Int32) hc2) (va_cwS 3 hts (gwS mw_391 mw_273 mw_48 mw_274) rfl rfl rfl (by decide +kernel) ⟨Nat.le_of_ble_eq_true rfl, Nat.le_of_ble_eq_true rfl⟩) hK hP hD hS hA hZ rfl hl.1 rfl (Nat.le_of_ble_eq_true rfl) dX9_needPatrol_3 ⟨Nat.zero_le _, Nat.zero_le _⟩ (fun H locs hP hD hS => ?_)
  rcases gx_xx h with ⟨y3, u4, hc5, h⟩ | ⟨u4, hc5, ew⟩
  · refine cc_vS (As := [.int y1]) (rest := []) ⟨hx, hb, hml, hown, hts⟩ (k_X9_needIndex l D cI cZ ad u y1 hc5) (va_cwS 1 hts (gwS mw_598 mw_599 mw_48 mw_600) rfl rfl rfl (by decide +kernel) ⟨Nat.le_of_ble_eq_true rfl, Nat.le_of_ble_eq_true rfl⟩) hK hP hD hS hA hZ rfl hl.1 rfl (Nat.le_of_ble_eq_true rfl) dX9_needPatrol_6 ⟨Nat.zero_le _, Nat.zero_le _⟩ (fun H locs hP hD hS => ?_)
    cases h
  · replace ew : u4 = w' := ew
    subst ew
    refine cX_vS (As := [.int y1]) (rest := []) ⟨hx, hb, hml, hown, hts⟩ (kx_X9_needIndex l hl0 D cI cZ ad u y1 hc5) (va_cwS 1 hts (gwS mw_598 mw_599 mw_48 mw_600) rfl rfl rfl (by decide +kernel) ⟨Nat.le_of_ble_eq_true rfl, Nat.le_of_ble_eq_true rfl⟩) hK hP hD hS hA hZ rfl hl.1 rfl (Nat.le_of_ble_eq_true rfl) dX9_needPatrol_6 ⟨Nat.le_of_ble_eq_true rfl, Nat.le_of_ble_eq_true rfl⟩ (fun ce q9 H locs hP hD hS h1 h2 h3 => ?_)
    exact cX_back hAe hQ hout hlocks hK rfl hP hD hS h1 h2 h3 (Nat.le_refl _) (Nat.le_refl _)

def rX9_minutesThrough : Room := { frames := 2, cells := 0, slots := 0, locals := 43 }
set_option maxHeartbeats 4000000 in
set_option maxRecDepth 100000 in
theorem k_X9_minutesThrough (l : Launch) (D : va_G) (cI cZ : ClassId) (ad : Nat → Nat) (u : GS) (p0 : Int32) {r : Int32} (h : g_X9_minutesThrough u p0 = some r) : MI l yX9_minutesThrough (wm yX9_minutesThrough cX9_minutesThrough 2 (some .int)) rX9_minutesThrough D [(cI, .int), (cZ, .boolean)] (wC cI cZ ad u) (wC cI cZ ad u) [.ref (ad 0), .int p0] r := by
  intro sz
  refine Met.ofW (cc := cX9_minutesThrough) (maxL := 2) (ret := (some .int)) (by decide) rfl ?_
  intro p e s m args below meth c s₁ B hml hv
  obtain ⟨rfl, hsz, hP, hK, hD0, hZ⟩ := hv
  have hx := B.exec
  have hb := B.bytes
  have hr := B.returns
  have hts : ∀ w ∈ Wall, w.before _ s = true := fun w hw => atoms_spec (ws := wm yX9_minutesThrough cX9_minutesThrough 2 (some .int)) B.pre w (List.mem_cons_of_mem _ hw)
  have hown : s.vm.findClass RX9 = some m.cls := findClass_of_methodNamed B.named
  have hlocks := B.notSynchronized
  subst hsz
  have hD := hD0.self (sz := s.heap.size)
  generalize hAe : va_A (wC cI cZ ad u) s.heap.size = A at hD hZ ⊢
  have hA : ∀ q : Nat, s.heap.size ≤ q → A q := fun q h => by rw [← hAe]; exact Or.inr h
  have hS : va_S A s.heap s.heap [] := va_S.rf
  have hf44 := hts _ mw_309
  have hf16 := hts _ mw_305
  have hl := lv_entry ([.ref (ad 0), .int p0]) (n := 2) (Nat.le_of_ble_eq_true rfl)
  rw [lg_entry_eq]
  generalize (lg_sl ([.ref (ad 0), .int p0]) ++ List.replicate (2 - (lg_sl ([.ref (ad 0), .int p0])).length) Slot.unset).toArray = ls at hl ⊢
  replace hl : lv_has ls 2 [(0, .ref (ad 0)), (1, .int p0)] := hl
  refine w_gen (fun Q hQ => ?_)
  refine lv_aload_n hx hb dX9_minutesThrough_0 rfl (lv_at hl 0 rfl) ?_
  refine va_get (D := D) (ci := 9) (v := .ref (ad 5)) (C := RX9) (T := TX9) (N := 10) hx hb hts iX9 hown hK hP 0 rfl rfl 5 (by decide) hf44 (fun _ h9 => h9) rfl dX9_minutesThrough_1 ?_
  refine lv_iload_n hx hb dX9_minutesThrough_4 rfl (lv_at hl 1 rfl) ?_
  obtain ⟨y1, hc2, h⟩ := gx_bind h
  refine cc_iV (As := [.int p0]) (rest := []) ⟨hx, hb, hml, hown, hts⟩ (k_X6_isOpenAt l D cI cZ ad u p0 hc2) (cwV 1 hts (gwV mw_758 mw_759 mw_760 mw_53 mw_761) rfl rfl rfl (by decide +kernel) ⟨Nat.le_of_ble_eq_true rfl, Nat.le_of_ble_eq_true rfl⟩) hK hP hD hS hA hZ (ci := 6) (q0 := 5) rfl rfl rfl hl.1 rfl (Nat.le_of_ble_eq_true rfl) dX9_minutesThrough_5 ⟨Nat.zero_le _, Nat.zero_le _⟩ (fun H locs hP hD hS => ?_)
  refine lv_if_eq (tgt := 26) hx hb dX9_minutesThrough_8 (by decide) (fun c3 => ?_) (fun c3 => ?_)
  · replace h := gx_t c3 h
    refine lv_iconst (v := 1) hx hb dX9_minutesThrough_26 (by decide) ?_
    cases h
    exact cc_ret hx hb hr rfl hQ hK hP hD hS rfl dX9_minutesThrough_27 hlocks
  · replace h := gx_f c3 h
    refine lv_iconst (v := 1) hx hb dX9_minutesThrough_11 (by decide) ?_
    refine lv_aload_n hx hb dX9_minutesThrough_12 rfl (lv_at hl 0 rfl) ?_
    refine va_get (D := D) (ci := 9) (v := .ref (ad 1)) (C := RX9) (T := TX9) (N := 10) hx hb hts iX9 hown hK hP 0 rfl rfl 1 (by decide) hf16 (fun _ h9 => h9) rfl dX9_minutesThrough_13 ?_
    refine lv_iload_n hx hb dX9_minutesThrough_16 rfl (lv_at hl 1 rfl) ?_
    obtain ⟨y4, hc5, h⟩ := gx_bind h
    refine cc_iV (As := [.int p0]) (rest := [.int (1 : Int32)]) ⟨hx, hb, hml, hown, hts⟩ (k_X8_mostIn l D cI cZ ad u p0 hc5) (cwV 1 hts (gwV mw_762 mw_373 mw_374 mw_49 mw_375) rfl rfl rfl (by decide +kernel) ⟨Nat.le_of_ble_eq_true rfl, Nat.le_of_ble_eq_true rfl⟩) hK hP hD hS hA hZ (ci := 8) (q0 := 1) rfl rfl rfl hl.1 rfl (Nat.le_of_ble_eq_true rfl) dX9_minutesThrough_17 ⟨Nat.zero_le _, Nat.zero_le _⟩ (fun H locs hP hD hS => ?_)
    refine lv_iconst (v := 5) hx hb dX9_minutesThrough_20 (by decide) ?_
    refine lv_idiv hx hb dX9_minutesThrough_21 (by decide) ?_
    refine lv_iadd hx hb dX9_minutesThrough_22 ?_
    refine lv_goto (tgt := 27) hx hb dX9_minutesThrough_23 (by decide) ?_
    cases h
    exact cc_ret hx hb hr rfl hQ hK hP hD hS rfl dX9_minutesThrough_27 hlocks

def rX9_wayBetween : Room := { frames := 3, cells := 0, slots := 0, locals := 64 }
set_option maxHeartbeats 4000000 in
set_option maxRecDepth 100000 in
theorem k_X9_wayBetween (l : Launch) (D : va_G) (cI cZ : ClassId) (ad : Nat → Nat) (u : GS) (p0 : Int32) (p1 : Int32) {r : Int32} (h : g_X9_wayBetween u p0 p1 = some r) : MI l yX9_wayBetween (wm yX9_wayBetween cX9_wayBetween 5 (some .int)) rX9_wayBetween D [(cI, .int), (cZ, .boolean)] (wC cI cZ ad u) (wC cI cZ ad u) [.ref (ad 0), .int p0, .int p1] r := by
  intro sz
  refine Met.ofW (cc := cX9_wayBetween) (maxL := 5) (ret := (some .int)) (by decide) rfl ?_
  intro p e s m args below meth c s₁ B hml hv
  obtain ⟨rfl, hsz, hP, hK, hD0, hZ⟩ := hv
  have hx := B.exec
  have hb := B.bytes
  have hr := B.returns
  have hts : ∀ w ∈ Wall, w.before _ s = true := fun w hw => atoms_spec (ws := wm yX9_wayBetween cX9_wayBetween 5 (some .int)) B.pre w (List.mem_cons_of_mem _ hw)
  have hown : s.vm.findClass RX9 = some m.cls := findClass_of_methodNamed B.named
  have hlocks := B.notSynchronized
  subst hsz
  have hD := hD0.self (sz := s.heap.size)
  generalize hAe : va_A (wC cI cZ ad u) s.heap.size = A at hD hZ ⊢
  have hA : ∀ q : Nat, s.heap.size ≤ q → A q := fun q h => by rw [← hAe]; exact Or.inr h
  have hS : va_S A s.heap s.heap [] := va_S.rf
  have hl := lv_entry ([.ref (ad 0), .int p0, .int p1]) (n := 5) (Nat.le_of_ble_eq_true rfl)
  rw [lg_entry_eq]
  generalize (lg_sl ([.ref (ad 0), .int p0, .int p1]) ++ List.replicate (5 - (lg_sl ([.ref (ad 0), .int p0, .int p1])).length) Slot.unset).toArray = ls at hl ⊢
  replace hl : lv_has ls 5 [(0, .ref (ad 0)), (1, .int p0), (2, .int p1)] := hl
  refine w_gen (fun Q hQ => ?_)
  refine lv_iload_n hx hb dX9_wayBetween_0 rfl (lv_at hl 2 rfl) ?_
  refine lv_iload_n hx hb dX9_wayBetween_1 rfl (lv_at hl 1 rfl) ?_
  refine lv_icmp_gt (tgt := 11) hx hb dX9_wayBetween_2 (by decide) (fun c1 => ?_) (fun c1 => ?_)
  · replace h := gx_t c1 h
    refine lv_iconst (v := 0) hx hb dX9_wayBetween_11 (by decide) ?_
    refine lv_istore_n (lv' := [(3, .int (0 : Int32)), (0, .ref (ad 0)), (1, .int p0), (2, .int p1)]) hx hb dX9_wayBetween_12 rfl hl (by decide) rfl (fun ls hl => ?_)
    refine lv_iload_n hx hb dX9_wayBetween_13 rfl (lv_at hl 2 rfl) ?_
    refine lv_iconst (v := 1) hx hb dX9_wayBetween_14 (by decide) ?_
    refine lv_iadd hx hb dX9_wayBetween_15 ?_
    obtain ⟨v2, ev2, h⟩ := gx_let h
    refine lv_topn ev2 ?_
    refine lv_istore (lv' := [(4, .int v2), (3, .int (0 : Int32)), (0, .ref (ad 0)), (1, .int p0), (2, .int p1)]) hx hb dX9_wayBetween_16 hl (by decide) rfl (fun ls hl => ?_)
    have hL18 : ∀ (k : Int32 → Option (Int32)) (hk : ∀ (x3_18 : Int32) (H : Heap) (locs : List Loc) (ls : Array Slot), k x3_18 = some r → va_P D vwCl (wC cI cZ ad u) H → va_D A (wC cI cZ ad u) → va_S A s.heap H locs → lv_has ls 5 [(3, .int x3_18)] → W p l e rX9_wayBetween s m ([.ref (ad 0), .int p0, .int p1] : List Value).toArray below meth c H locs 0 0 Q (F0 m 39 ls [])) (n : Nat) (x3_18 : Int32) (x4_18 : Int32) (H : Heap) (locs : List Loc) (ls : Array Slot), lp_X9_wayBetween_18 u p1 k n x3_18 x4_18 = some r → va_P D vwCl (wC cI cZ ad u) H → va_D A (wC cI cZ ad u) → va_S A s.heap H locs → lv_has ls 5 [(0, .ref (ad 0)), (2, .int p1), (3, .int x3_18), (4, .int x4_18)] → W p l e rX9_wayBetween s m ([.ref (ad 0), .int p0, .int p1] : List Value).toArray below meth c H locs 0 0 Q (F0 m 18 ls []) := by
      intro k hk n
      induction n with
      | zero =>
        intro x3_18 x4_18 H locs ls h
        rw [lp_X9_wayBetween_18] at h
        cases h
      | succ n ih =>
        intro x3_18 x4_18 H locs ls h hP hD hS hl
        rw [lp_X9_wayBetween_18] at h
        refine lv_iload hx hb dX9_wayBetween_18 (lv_at hl 3 rfl) ?_
        refine lv_iload_n hx hb dX9_wayBetween_20 rfl (lv_at hl 1 rfl) ?_
        refine lv_icmp_gt (tgt := 39) hx hb dX9_wayBetween_21 (by decide) (fun c3 => ?_) (fun c3 => ?_)
        · replace h := gx_t c3 h
          exact hk x3_18 _ _ _ h hP hD hS (lv_sub hl [2] rfl)
        · replace h := gx_f c3 h
          refine lv_iload_n hx hb dX9_wayBetween_24 rfl (lv_at hl 2 rfl) ?_
          refine lv_aload_n hx hb dX9_wayBetween_25 rfl (lv_at hl 0 rfl) ?_
          refine lv_iload hx hb dX9_wayBetween_26 (lv_at hl 3 rfl) ?_
          obtain ⟨y4, hc5, h⟩ := gx_bind h
          refine cc_iV (As := [.int x4_18]) (rest := [.int x3_18]) ⟨hx, hb, hml, hown, hts⟩ (k_X9_minutesThrough l D cI cZ ad u x4_18 hc5) (cwV 1 hts (gwV mw_754 mw_756 mw_15 mw_48 mw_757) rfl rfl rfl (by decide +kernel) ⟨Nat.le_of_ble_eq_true rfl, Nat.le_of_ble_eq_true rfl⟩) hK hP hD hS hA hZ (ci := 9) (q0 := 0) rfl rfl rfl hl.1 rfl (Nat.le_of_ble_eq_true rfl) dX9_wayBetween_28 ⟨Nat.zero_le _, Nat.zero_le _⟩ (fun H locs hP hD hS => ?_)
          refine lv_iadd hx hb dX9_wayBetween_31 ?_
          obtain ⟨v6, ev6, h⟩ := gx_let h
          refine lv_topn ev6 ?_
          refine lv_istore_n (lv' := [(3, .int v6), (0, .ref (ad 0)), (2, .int p1), (4, .int x4_18)]) hx hb dX9_wayBetween_32 rfl hl (by decide) rfl (fun ls hl => ?_)
          obtain ⟨v7, ev7, h⟩ := gx_let h
          refine lv_iinc (v := v7) (lv' := [(4, .int v7), (3, .int v6), (0, .ref (ad 0)), (2, .int p1)]) hx hb dX9_wayBetween_33 hl (k := 3) rfl (by rw [← ev7]; rfl) (by decide) rfl (fun ls hl => ?_)
          refine lv_goto (tgt := 18) hx hb dX9_wayBetween_36 (by decide) ?_
          exact ih v6 v7 _ _ _ h hP hD hS (lv_sub hl [2, 3, 1, 0] rfl)
    refine hL18 _ (fun x3_18 H locs ls h hP hD hS hl => ?_) FU (0 : Int32) v2 _ _ _ h hP hD hS (lv_sub hl [2, 4, 1, 0] rfl)
    refine lv_iload_n hx hb dX9_wayBetween_39 rfl (lv_at hl 0 rfl) ?_
    cases h
    exact cc_ret hx hb hr rfl hQ hK hP hD hS rfl dX9_wayBetween_40 hlocks
  · replace h := gx_f c1 h
    refine lv_iconst (v := 3) hx hb dX9_wayBetween_5 (by decide) ?_
    refine lv_iload_n hx hb dX9_wayBetween_6 rfl (lv_at hl 1 rfl) ?_
    refine lv_iload_n hx hb dX9_wayBetween_7 rfl (lv_at hl 2 rfl) ?_
    refine lv_isub hx hb dX9_wayBetween_8 ?_
    refine lv_imul hx hb dX9_wayBetween_9 ?_
    cases h
    exact cc_ret hx hb hr rfl hQ hK hP hD hS rfl dX9_wayBetween_10 hlocks

def rX9_way : Room := { frames := 4, cells := 0, slots := 0, locals := 88 }
set_option maxHeartbeats 4000000 in
set_option maxRecDepth 100000 in
theorem k_X9_way (l : Launch) (D : va_G) (cI cZ : ClassId) (ad : Nat → Nat) (u : GS) (p0 : Int32) (p1 : Int32) {r : Int32} {w' : GS} (h : g_X9_way u p0 p1 = some (.inl r, w')) : MI l yX9_way (wm yX9_way cX9_way 3 (some .int)) rX9_way D [(cI, .int), (cZ, .boolean)] (wC cI cZ ad u) (wC cI cZ ad w') [.ref (ad 0), .int p0, .int p1] r := by
  intro sz
  refine Met.ofW (cc := cX9_way) (maxL := 3) (ret := (some .int)) (by decide) rfl ?_
  intro p e s m args below meth c s₁ B hml hv
  obtain ⟨rfl, hsz, hP, hK, hD0, hZ⟩ := hv
  have hx := B.exec
  have hb := B.bytes
  have hr := B.returns
  have hts : ∀ w ∈ Wall, w.before _ s = true := fun w hw => atoms_spec (ws := wm yX9_way cX9_way 3 (some .int)) B.pre w (List.mem_cons_of_mem _ hw)
  have hown : s.vm.findClass RX9 = some m.cls := findClass_of_methodNamed B.named
  have hlocks := B.notSynchronized
  subst hsz
  have hD := hD0.self (sz := s.heap.size)
  generalize hAe : va_A (wC cI cZ ad u) s.heap.size = A at hD hZ ⊢
  have hA : ∀ q : Nat, s.heap.size ≤ q → A q := fun q h => by rw [← hAe]; exact Or.inr h
  have hS : va_S A s.heap s.heap [] := va_S.rf
  have hf58 := hts _ mw_311
  have hf223 := hts _ mw_209
  have hl := lv_entry ([.ref (ad 0), .int p0, .int p1]) (n := 3) (Nat.le_of_ble_eq_true rfl)
  rw [lg_entry_eq]
  generalize (lg_sl ([.ref (ad 0), .int p0, .int p1]) ++ List.replicate (3 - (lg_sl ([.ref (ad 0), .int p0, .int p1])).length) Slot.unset).toArray = ls at hl ⊢
  replace hl : lv_has ls 3 [(0, .ref (ad 0)), (1, .int p0), (2, .int p1)] := hl
  refine w_gen (fun Q hQ => ?_)
  refine lv_iload_n hx hb dX9_way_0 rfl (lv_at hl 1 rfl) ?_
  obtain ⟨y1, u2, hc3, h⟩ := gx_xr h
  refine cc_vS (As := [.int p0]) (rest := []) ⟨hx, hb, hml, hown, hts⟩ (k_X9_needPatrol l D cI cZ ad u p0 hc3) (va_cwS 1 hts (gwS mw_747 mw_748 mw_48 mw_749) rfl rfl rfl (by decide +kernel) ⟨Nat.le_of_ble_eq_true rfl, Nat.le_of_ble_eq_true rfl⟩) hK hP hD hS hA hZ rfl hl.1 rfl (Nat.le_of_ble_eq_true rfl) dX9_way_1 ⟨Nat.zero_le _, Nat.zero_le _⟩ (fun H locs hP hD hS => ?_)
  refine lv_iload_n hx hb dX9_way_4 rfl (lv_at hl 2 rfl) ?_
  obtain ⟨y4, u5, hc6, h⟩ := gx_xr h
  refine cc_vS (As := [.int p1]) (rest := []) ⟨hx, hb, hml, hown, hts⟩ (k_X9_needSection l D cI cZ ad u2 p1 hc6) (va_cwS 1 hts (gwS mw_595 mw_596 mw_48 mw_597) rfl rfl rfl (by decide +kernel) ⟨Nat.le_of_ble_eq_true rfl, Nat.le_of_ble_eq_true rfl⟩) hK hP hD hS hA hZ rfl hl.1 rfl (Nat.le_of_ble_eq_true rfl) dX9_way_5 ⟨Nat.zero_le _, Nat.zero_le _⟩ (fun H locs hP hD hS => ?_)
  refine lv_aload_n hx hb dX9_way_8 rfl (lv_at hl 0 rfl) ?_
  refine lv_aload_n hx hb dX9_way_9 rfl (lv_at hl 0 rfl) ?_
  refine va_get (D := D) (ci := 9) (v := .ref (ad 7)) (C := RX9) (T := TX9) (N := 10) hx hb hts iX9 hown hK hP 0 rfl rfl 7 (by decide) hf58 (fun _ h9 => h9) rfl dX9_way_10 ?_
  refine va_get (D := D) (ci := 4) (v := .ref (ad 26)) (C := RX4) (T := TX4) (N := 3) hx hb hts iX4 hown hK hP 7 rfl rfl 0 (by decide) hf223 (fun _ h9 => h9) rfl dX9_way_13 ?_
  refine lv_iload_n hx hb dX9_way_16 rfl (lv_at hl 1 rfl) ?_
  obtain ⟨b7, h⟩ := gx_in h
  refine va_iald (D := D) hx hb hK hP 26 0 rfl rfl b7 dX9_way_17 ?_
  refine lv_iload_n hx hb dX9_way_18 rfl (lv_at hl 2 rfl) ?_
  obtain ⟨y8, hc9, h⟩ := gx_bind h
  refine cc_iV (As := [.int (cP_sections u5 p0.toNatClampNeg), .int p1]) (rest := []) ⟨hx, hb, hml, hown, hts⟩ (k_X9_wayBetween l D cI cZ ad u5 (cP_sections u5 p0.toNatClampNeg) p1 hc9) (cwV 2 hts (gwV mw_750 mw_752 mw_14 mw_48 mw_753) rfl rfl rfl (by decide +kernel) ⟨Nat.le_of_ble_eq_true rfl, Nat.le_of_ble_eq_true rfl⟩) hK hP hD hS hA hZ (ci := 9) (q0 := 0) rfl rfl rfl hl.1 rfl (Nat.le_of_ble_eq_true rfl) dX9_way_19 ⟨Nat.zero_le _, Nat.zero_le _⟩ (fun H locs hP hD hS => ?_)
  cases h
  exact cc_ret hx hb hr rfl hQ hK hP hD hS rfl dX9_way_22 hlocks

def rx_X9_way : Room := { frames := 8, cells := 1, slots := 6, locals := 130 }
set_option maxHeartbeats 4000000 in
set_option maxRecDepth 100000 in
theorem kx_X9_way (l : Launch) (hl0 : l.stackTraces = false) (D : va_G) (cI cZ : ClassId) (ad : Nat → Nat) (u : GS) (p0 : Int32) (p1 : Int32) {E : String} {w' : GS} (h : g_X9_way u p0 p1 = some (.inr E, w')) : XI l yX9_way (wm yX9_way cX9_way 3 (some .int)) rx_X9_way D [(cI, .int), (cZ, .boolean)] (wC cI cZ ad u) (wC cI cZ ad w') [.ref (ad 0), .int p0, .int p1] E := by
  intro sz
  refine vx_ofW (cc := cX9_way) (maxL := 3) (ret := (some .int)) (by decide) rfl ?_
  intro p e s m args below meth c s₁ B hml hout hv
  obtain ⟨rfl, hsz, hP, hK, hD0, hZ⟩ := hv
  have hx := B.exec
  have hb := B.bytes
  have hts : ∀ w ∈ Wall, w.before _ s = true := fun w hw => atoms_spec (ws := wm yX9_way cX9_way 3 (some .int)) B.pre w (List.mem_cons_of_mem _ hw)
  have hown : s.vm.findClass RX9 = some m.cls := findClass_of_methodNamed B.named
  have hlocks := B.notSynchronized
  subst hsz
  have hD := hD0.self (sz := s.heap.size)
  generalize hAe : va_A (wC cI cZ ad u) s.heap.size = A at hD hZ
  have hA : ∀ q : Nat, s.heap.size ≤ q → A q := fun q h => by rw [← hAe]; exact Or.inr h
  have hS : va_S A s.heap s.heap [] := va_S.rf
  have hf58 := hts _ mw_311
  have hf223 := hts _ mw_209
  have hl := lv_entry ([.ref (ad 0), .int p0, .int p1]) (n := 3) (Nat.le_of_ble_eq_true rfl)
  rw [lg_entry_eq]
  generalize (lg_sl ([.ref (ad 0), .int p0, .int p1]) ++ List.replicate (3 - (lg_sl ([.ref (ad 0), .int p0, .int p1])).length) Slot.unset).toArray = ls at hl ⊢
  replace hl : lv_has ls 3 [(0, .ref (ad 0)), (1, .int p0), (2, .int p1)] := hl
  refine w_gen (fun Q hQ => ?_)
  refine lv_iload_n hx hb dX9_way_0 rfl (lv_at hl 1 rfl) ?_
  rcases gx_xx h with ⟨y1, u2, hc3, h⟩ | ⟨u2, hc3, ew⟩
  · refine cc_vS (As := [.int p0]) (rest := []) ⟨hx, hb, hml, hown, hts⟩ (k_X9_needPatrol l D cI cZ ad u p0 hc3) (va_cwS 1 hts (gwS mw_747 mw_748 mw_48 mw_749) rfl rfl rfl (by decide +kernel) ⟨Nat.le_of_ble_eq_true rfl, Nat.le_of_ble_eq_true rfl⟩) hK hP hD hS hA hZ rfl hl.1 rfl (Nat.le_of_ble_eq_true rfl) dX9_way_1 ⟨Nat.zero_le _, Nat.zero_le _⟩ (fun H locs hP hD hS => ?_)
    refine lv_iload_n hx hb dX9_way_4 rfl (lv_at hl 2 rfl) ?_
    rcases gx_xx h with ⟨y4, u5, hc6, h⟩ | ⟨u5, hc6, ew⟩
    · refine cc_vS (As := [.int p1]) (rest := []) ⟨hx, hb, hml, hown, hts⟩ (k_X9_needSection l D cI cZ ad u2 p1 hc6) (va_cwS 1 hts (gwS mw_595 mw_596 mw_48 mw_597) rfl rfl rfl (by decide +kernel) ⟨Nat.le_of_ble_eq_true rfl, Nat.le_of_ble_eq_true rfl⟩) hK hP hD hS hA hZ rfl hl.1 rfl (Nat.le_of_ble_eq_true rfl) dX9_way_5 ⟨Nat.zero_le _, Nat.zero_le _⟩ (fun H locs hP hD hS => ?_)
      refine lv_aload_n hx hb dX9_way_8 rfl (lv_at hl 0 rfl) ?_
      refine lv_aload_n hx hb dX9_way_9 rfl (lv_at hl 0 rfl) ?_
      refine va_get (D := D) (ci := 9) (v := .ref (ad 7)) (C := RX9) (T := TX9) (N := 10) hx hb hts iX9 hown hK hP 0 rfl rfl 7 (by decide) hf58 (fun _ h9 => h9) rfl dX9_way_10 ?_
      refine va_get (D := D) (ci := 4) (v := .ref (ad 26)) (C := RX4) (T := TX4) (N := 3) hx hb hts iX4 hown hK hP 7 rfl rfl 0 (by decide) hf223 (fun _ h9 => h9) rfl dX9_way_13 ?_
      refine lv_iload_n hx hb dX9_way_16 rfl (lv_at hl 1 rfl) ?_
      obtain ⟨b7, h⟩ := gx_in h
      refine va_iald (D := D) hx hb hK hP 26 0 rfl rfl b7 dX9_way_17 ?_
      refine lv_iload_n hx hb dX9_way_18 rfl (lv_at hl 2 rfl) ?_
      obtain ⟨y8, hc9, h⟩ := gx_bind h
      refine cc_iV (As := [.int (cP_sections u5 p0.toNatClampNeg), .int p1]) (rest := []) ⟨hx, hb, hml, hown, hts⟩ (k_X9_wayBetween l D cI cZ ad u5 (cP_sections u5 p0.toNatClampNeg) p1 hc9) (cwV 2 hts (gwV mw_750 mw_752 mw_14 mw_48 mw_753) rfl rfl rfl (by decide +kernel) ⟨Nat.le_of_ble_eq_true rfl, Nat.le_of_ble_eq_true rfl⟩) hK hP hD hS hA hZ (ci := 9) (q0 := 0) rfl rfl rfl hl.1 rfl (Nat.le_of_ble_eq_true rfl) dX9_way_19 ⟨Nat.zero_le _, Nat.zero_le _⟩ (fun H locs hP hD hS => ?_)
      cases h
    · replace ew : u5 = w' := ew
      subst ew
      refine cX_vS (As := [.int p1]) (rest := []) ⟨hx, hb, hml, hown, hts⟩ (kx_X9_needSection l hl0 D cI cZ ad u2 p1 hc6) (va_cwS 1 hts (gwS mw_595 mw_596 mw_48 mw_597) rfl rfl rfl (by decide +kernel) ⟨Nat.le_of_ble_eq_true rfl, Nat.le_of_ble_eq_true rfl⟩) hK hP hD hS hA hZ rfl hl.1 rfl (Nat.le_of_ble_eq_true rfl) dX9_way_5 ⟨Nat.le_of_ble_eq_true rfl, Nat.le_of_ble_eq_true rfl⟩ (fun ce q9 H locs hP hD hS h1 h2 h3 => ?_)
      exact cX_back hAe hQ hout hlocks hK rfl hP hD hS h1 h2 h3 (Nat.le_refl _) (Nat.le_refl _)
  · replace ew : u2 = w' := ew
    subst ew
    refine cX_vS (As := [.int p0]) (rest := []) ⟨hx, hb, hml, hown, hts⟩ (kx_X9_needPatrol l hl0 D cI cZ ad u p0 hc3) (va_cwS 1 hts (gwS mw_747 mw_748 mw_48 mw_749) rfl rfl rfl (by decide +kernel) ⟨Nat.le_of_ble_eq_true rfl, Nat.le_of_ble_eq_true rfl⟩) hK hP hD hS hA hZ rfl hl.1 rfl (Nat.le_of_ble_eq_true rfl) dX9_way_1 ⟨Nat.le_of_ble_eq_true rfl, Nat.le_of_ble_eq_true rfl⟩ (fun ce q9 H locs hP hD hS h1 h2 h3 => ?_)
    exact cX_back hAe hQ hout hlocks hK rfl hP hD hS h1 h2 h3 (Nat.le_refl _) (Nat.le_refl _)

def rX9_send : Room := { frames := 4, cells := 0, slots := 0, locals := 88 }
set_option maxHeartbeats 4000000 in
set_option maxRecDepth 100000 in
theorem k_X9_send (l : Launch) (D : va_G) (cI cZ : ClassId) (ad : Nat → Nat) (u : GS) (p0 : Int32) (p1 : Int32) {r : Int32} {w' : GS} (h : g_X9_send u p0 p1 = some (.inl r, w')) : MI l yX9_send (wm yX9_send cX9_send 4 (some .int)) rX9_send D [(cI, .int), (cZ, .boolean)] (wC cI cZ ad u) (wC cI cZ ad w') [.ref (ad 0), .int p0, .int p1] r := by
  intro sz
  refine Met.ofW (cc := cX9_send) (maxL := 4) (ret := (some .int)) (by decide) rfl ?_
  intro p e s m args below meth c s₁ B hml hv
  obtain ⟨rfl, hsz, hP, hK, hD0, hZ⟩ := hv
  have hx := B.exec
  have hb := B.bytes
  have hr := B.returns
  have hts : ∀ w ∈ Wall, w.before _ s = true := fun w hw => atoms_spec (ws := wm yX9_send cX9_send 4 (some .int)) B.pre w (List.mem_cons_of_mem _ hw)
  have hown : s.vm.findClass RX9 = some m.cls := findClass_of_methodNamed B.named
  have hlocks := B.notSynchronized
  subst hsz
  have hD := hD0.self (sz := s.heap.size)
  generalize hAe : va_A (wC cI cZ ad u) s.heap.size = A at hD hZ ⊢
  have hA : ∀ q : Nat, s.heap.size ≤ q → A q := fun q h => by rw [← hAe]; exact Or.inr h
  have hS : va_S A s.heap s.heap [] := va_S.rf
  have hf51 := hts _ mw_310
  have hf58 := hts _ mw_311
  have hf229 := hts _ mw_211
  have hf206 := hts _ mw_189
  have hf218 := hts _ mw_191
  have hf223 := hts _ mw_209
  have hf231 := hts _ mw_213
  have hl := lv_entry ([.ref (ad 0), .int p0, .int p1]) (n := 4) (Nat.le_of_ble_eq_true rfl)
  rw [lg_entry_eq]
  generalize (lg_sl ([.ref (ad 0), .int p0, .int p1]) ++ List.replicate (4 - (lg_sl ([.ref (ad 0), .int p0, .int p1])).length) Slot.unset).toArray = ls at hl ⊢
  replace hl : lv_has ls 4 [(0, .ref (ad 0)), (1, .int p0), (2, .int p1)] := hl
  refine w_gen (fun Q hQ => ?_)
  refine lv_iload_n hx hb dX9_send_0 rfl (lv_at hl 1 rfl) ?_
  obtain ⟨y1, u2, hc3, h⟩ := gx_xr h
  refine cc_vS (As := [.int p0]) (rest := []) ⟨hx, hb, hml, hown, hts⟩ (k_X9_needPatrol l D cI cZ ad u p0 hc3) (va_cwS 1 hts (gwS mw_747 mw_748 mw_48 mw_749) rfl rfl rfl (by decide +kernel) ⟨Nat.le_of_ble_eq_true rfl, Nat.le_of_ble_eq_true rfl⟩) hK hP hD hS hA hZ rfl hl.1 rfl (Nat.le_of_ble_eq_true rfl) dX9_send_1 ⟨Nat.zero_le _, Nat.zero_le _⟩ (fun H locs hP hD hS => ?_)
  refine lv_aload_n hx hb dX9_send_4 rfl (lv_at hl 0 rfl) ?_
  refine va_get (D := D) (ci := 9) (v := .ref (ad 6)) (C := RX9) (T := TX9) (N := 10) hx hb hts iX9 hown hK hP 0 rfl rfl 6 (by decide) hf51 (fun _ h9 => h9) rfl dX9_send_5 ?_
  refine lv_iload_n hx hb dX9_send_8 rfl (lv_at hl 2 rfl) ?_
  obtain ⟨y4, hc5, h⟩ := gx_bind h
  refine cc_iV (As := [.int p1]) (rest := []) ⟨hx, hb, hml, hown, hts⟩ (k_X2_has l D cI cZ ad u2 p1 hc5) (cwV 1 hts (gwV mw_502 mw_503 mw_504 mw_54 mw_505) rfl rfl rfl (by decide +kernel) ⟨Nat.le_of_ble_eq_true rfl, Nat.le_of_ble_eq_true rfl⟩) hK hP hD hS hA hZ (ci := 2) (q0 := 6) rfl rfl rfl hl.1 rfl (Nat.le_of_ble_eq_true rfl) dX9_send_9 ⟨Nat.zero_le _, Nat.zero_le _⟩ (fun H locs hP hD hS => ?_)
  obtain ⟨y6, u7, hc8, h⟩ := gx_xr h
  refine cc_vS (As := [.int y4]) (rest := []) ⟨hx, hb, hml, hown, hts⟩ (k_X9_needIndex l D cI cZ ad u2 y4 hc8) (va_cwS 1 hts (gwS mw_598 mw_599 mw_48 mw_600) rfl rfl rfl (by decide +kernel) ⟨Nat.le_of_ble_eq_true rfl, Nat.le_of_ble_eq_true rfl⟩) hK hP hD hS hA hZ rfl hl.1 rfl (Nat.le_of_ble_eq_true rfl) dX9_send_12 ⟨Nat.zero_le _, Nat.zero_le _⟩ (fun H locs hP hD hS => ?_)
  refine lv_aload_n hx hb dX9_send_15 rfl (lv_at hl 0 rfl) ?_
  refine va_get (D := D) (ci := 9) (v := .ref (ad 7)) (C := RX9) (T := TX9) (N := 10) hx hb hts iX9 hown hK hP 0 rfl rfl 7 (by decide) hf58 (fun _ h9 => h9) rfl dX9_send_16 ?_
  refine va_get (D := D) (ci := 4) (v := .ref (ad 27)) (C := RX4) (T := TX4) (N := 3) hx hb hts iX4 hown hK hP 7 rfl rfl 1 (by decide) hf229 (fun _ h9 => h9) rfl dX9_send_19 ?_
  refine lv_iload_n hx hb dX9_send_22 rfl (lv_at hl 1 rfl) ?_
  obtain ⟨b9, h⟩ := gx_in h
  refine va_iald (D := D) hx hb hK hP 27 0 rfl rfl b9 dX9_send_23 ?_
  refine lv_iconst (v := (-1)) hx hb dX9_send_24 (by decide) ?_
  obtain ⟨j33_10, ej33_10, h⟩ := gx_let h
  have hj33_10 : ∀ (z0_33 : Int32) (H : Heap) (locs : List Loc) (ls : Array Slot), j33_10 z0_33 = some (.inl r, w') → va_P D vwCl (wC cI cZ ad u7) H → va_D A (wC cI cZ ad u7) → va_S A s.heap H locs → lv_has ls 4 [(0, .ref (ad 0)), (1, .int p0), (2, .int p1)] → W p l e rX9_send s m ([.ref (ad 0), .int p0, .int p1] : List Value).toArray below meth c H locs 0 0 Q (F0 m 33 ls [.int z0_33]) := by
    intro z0_33 H locs ls h hP hD hS hl
    subst ej33_10
    obtain ⟨y11, u12, hc13, h⟩ := gx_xr h
    refine cc_vS (As := [.int z0_33]) (rest := []) ⟨hx, hb, hml, hown, hts⟩ (k_X9_needState l D cI cZ ad u7 z0_33 hc13) (va_cwS 1 hts (gwS mw_471 mw_472 mw_48 mw_473) rfl rfl rfl (by decide +kernel) ⟨Nat.le_of_ble_eq_true rfl, Nat.le_of_ble_eq_true rfl⟩) hK hP hD hS hA hZ rfl hl.1 rfl (Nat.le_of_ble_eq_true rfl) dX9_send_33 ⟨Nat.zero_le _, Nat.zero_le _⟩ (fun H locs hP hD hS => ?_)
    refine lv_aload_n hx hb dX9_send_36 rfl (lv_at hl 0 rfl) ?_
    refine va_get (D := D) (ci := 9) (v := .ref (ad 6)) (C := RX9) (T := TX9) (N := 10) hx hb hts iX9 hown hK hP 0 rfl rfl 6 (by decide) hf51 (fun _ h9 => h9) rfl dX9_send_37 ?_
    refine va_get (D := D) (ci := 2) (v := .ref (ad 24)) (C := RX2) (T := TX2) (N := 4) hx hb hts iX2 hown hK hP 6 rfl rfl 1 (by decide) hf206 (fun _ h9 => h9) rfl dX9_send_40 ?_
    refine lv_iload_n hx hb dX9_send_43 rfl (lv_at hl 2 rfl) ?_
    obtain ⟨b14, h⟩ := gx_in h
    refine va_iald (D := D) hx hb hK hP 24 0 rfl rfl b14 dX9_send_44 ?_
    refine lv_iconst (v := 1) hx hb dX9_send_45 (by decide) ?_
    obtain ⟨j54_15, ej54_15, h⟩ := gx_let h
    have hj54_15 : ∀ (z0_54 : Int32) (H : Heap) (locs : List Loc) (ls : Array Slot), j54_15 z0_54 = some (.inl r, w') → va_P D vwCl (wC cI cZ ad u12) H → va_D A (wC cI cZ ad u12) → va_S A s.heap H locs → lv_has ls 4 [(0, .ref (ad 0)), (1, .int p0), (2, .int p1)] → W p l e rX9_send s m ([.ref (ad 0), .int p0, .int p1] : List Value).toArray below meth c H locs 0 0 Q (F0 m 54 ls [.int z0_54]) := by
      intro z0_54 H locs ls h hP hD hS hl
      subst ej54_15
      obtain ⟨y16, u17, hc18, h⟩ := gx_xr h
      refine cc_vS (As := [.int z0_54]) (rest := []) ⟨hx, hb, hml, hown, hts⟩ (k_X9_needState l D cI cZ ad u12 z0_54 hc18) (va_cwS 1 hts (gwS mw_471 mw_472 mw_48 mw_473) rfl rfl rfl (by decide +kernel) ⟨Nat.le_of_ble_eq_true rfl, Nat.le_of_ble_eq_true rfl⟩) hK hP hD hS hA hZ rfl hl.1 rfl (Nat.le_of_ble_eq_true rfl) dX9_send_54 ⟨Nat.zero_le _, Nat.zero_le _⟩ (fun H locs hP hD hS => ?_)
      refine lv_aload_n hx hb dX9_send_57 rfl (lv_at hl 0 rfl) ?_
      refine va_get (D := D) (ci := 9) (v := .ref (ad 6)) (C := RX9) (T := TX9) (N := 10) hx hb hts iX9 hown hK hP 0 rfl rfl 6 (by decide) hf51 (fun _ h9 => h9) rfl dX9_send_58 ?_
      refine va_get (D := D) (ci := 2) (v := .ref (ad 25)) (C := RX2) (T := TX2) (N := 4) hx hb hts iX2 hown hK hP 6 rfl rfl 2 (by decide) hf218 (fun _ h9 => h9) rfl dX9_send_61 ?_
      refine lv_iload_n hx hb dX9_send_64 rfl (lv_at hl 2 rfl) ?_
      obtain ⟨b19, h⟩ := gx_in h
      refine va_iald (D := D) hx hb hK hP 25 0 rfl rfl b19 dX9_send_65 ?_
      refine lv_iconst (v := (-1)) hx hb dX9_send_66 (by decide) ?_
      obtain ⟨j75_20, ej75_20, h⟩ := gx_let h
      have hj75_20 : ∀ (z0_75 : Int32) (H : Heap) (locs : List Loc) (ls : Array Slot), j75_20 z0_75 = some (.inl r, w') → va_P D vwCl (wC cI cZ ad u17) H → va_D A (wC cI cZ ad u17) → va_S A s.heap H locs → lv_has ls 4 [(0, .ref (ad 0)), (1, .int p0), (2, .int p1)] → W p l e rX9_send s m ([.ref (ad 0), .int p0, .int p1] : List Value).toArray below meth c H locs 0 0 Q (F0 m 75 ls [.int z0_75]) := by
        intro z0_75 H locs ls h hP hD hS hl
        subst ej75_20
        obtain ⟨y21, u22, hc23, h⟩ := gx_xr h
        refine cc_vS (As := [.int z0_75]) (rest := []) ⟨hx, hb, hml, hown, hts⟩ (k_X9_needState l D cI cZ ad u17 z0_75 hc23) (va_cwS 1 hts (gwS mw_471 mw_472 mw_48 mw_473) rfl rfl rfl (by decide +kernel) ⟨Nat.le_of_ble_eq_true rfl, Nat.le_of_ble_eq_true rfl⟩) hK hP hD hS hA hZ rfl hl.1 rfl (Nat.le_of_ble_eq_true rfl) dX9_send_75 ⟨Nat.zero_le _, Nat.zero_le _⟩ (fun H locs hP hD hS => ?_)
        refine lv_aload_n hx hb dX9_send_78 rfl (lv_at hl 0 rfl) ?_
        refine lv_aload_n hx hb dX9_send_79 rfl (lv_at hl 0 rfl) ?_
        refine va_get (D := D) (ci := 9) (v := .ref (ad 7)) (C := RX9) (T := TX9) (N := 10) hx hb hts iX9 hown hK hP 0 rfl rfl 7 (by decide) hf58 (fun _ h9 => h9) rfl dX9_send_80 ?_
        refine va_get (D := D) (ci := 4) (v := .ref (ad 26)) (C := RX4) (T := TX4) (N := 3) hx hb hts iX4 hown hK hP 7 rfl rfl 0 (by decide) hf223 (fun _ h9 => h9) rfl dX9_send_83 ?_
        refine lv_iload_n hx hb dX9_send_86 rfl (lv_at hl 1 rfl) ?_
        obtain ⟨b24, h⟩ := gx_in h
        refine va_iald (D := D) hx hb hK hP 26 0 rfl rfl b24 dX9_send_87 ?_
        refine lv_aload_n hx hb dX9_send_88 rfl (lv_at hl 0 rfl) ?_
        refine va_get (D := D) (ci := 9) (v := .ref (ad 6)) (C := RX9) (T := TX9) (N := 10) hx hb hts iX9 hown hK hP 0 rfl rfl 6 (by decide) hf51 (fun _ h9 => h9) rfl dX9_send_89 ?_
        refine lv_iload_n hx hb dX9_send_92 rfl (lv_at hl 2 rfl) ?_
        obtain ⟨y25, hc26, h⟩ := gx_bind h
        refine cc_iV (As := [.int p1]) (rest := [.int (cP_sections u22 p0.toNatClampNeg), .ref (ad 0)]) ⟨hx, hb, hml, hown, hts⟩ (k_X2_sectionOf l D cI cZ ad u22 p1 hc26) (cwV 1 hts (gwV mw_511 mw_512 mw_513 mw_54 mw_514) rfl rfl rfl (by decide +kernel) ⟨Nat.le_of_ble_eq_true rfl, Nat.le_of_ble_eq_true rfl⟩) hK hP hD hS hA hZ (ci := 2) (q0 := 6) rfl rfl rfl hl.1 rfl (Nat.le_of_ble_eq_true rfl) dX9_send_93 ⟨Nat.zero_le _, Nat.zero_le _⟩ (fun H locs hP hD hS => ?_)
        obtain ⟨y27, hc28, h⟩ := gx_bind h
        refine cc_iV (As := [.int (cP_sections u22 p0.toNatClampNeg), .int y25]) (rest := []) ⟨hx, hb, hml, hown, hts⟩ (k_X9_wayBetween l D cI cZ ad u22 (cP_sections u22 p0.toNatClampNeg) y25 hc28) (cwV 2 hts (gwV mw_750 mw_752 mw_14 mw_48 mw_753) rfl rfl rfl (by decide +kernel) ⟨Nat.le_of_ble_eq_true rfl, Nat.le_of_ble_eq_true rfl⟩) hK hP hD hS hA hZ (ci := 9) (q0 := 0) rfl rfl rfl hl.1 rfl (Nat.le_of_ble_eq_true rfl) dX9_send_96 ⟨Nat.zero_le _, Nat.zero_le _⟩ (fun H locs hP hD hS => ?_)
        refine lv_istore_n (lv' := [(3, .int y27), (0, .ref (ad 0)), (1, .int p0), (2, .int p1)]) hx hb dX9_send_99 rfl hl (by decide) rfl (fun ls hl => ?_)
        refine lv_aload_n hx hb dX9_send_100 rfl (lv_at hl 1 rfl) ?_
        refine va_get (D := D) (ci := 9) (v := .ref (ad 6)) (C := RX9) (T := TX9) (N := 10) hx hb hts iX9 hown hK hP 0 rfl rfl 6 (by decide) hf51 (fun _ h9 => h9) rfl dX9_send_101 ?_
        refine va_get (D := D) (ci := 2) (v := .ref (ad 25)) (C := RX2) (T := TX2) (N := 4) hx hb hts iX2 hown hK hP 6 rfl rfl 2 (by decide) hf218 (fun _ h9 => h9) rfl dX9_send_104 ?_
        refine lv_iload_n hx hb dX9_send_107 rfl (lv_at hl 3 rfl) ?_
        refine lv_iload_n hx hb dX9_send_108 rfl (lv_at hl 2 rfl) ?_
        obtain ⟨b29, h⟩ := gx_in h
        refine va_iast (D := D) hx hb hK hP hD hS 25 0 rfl rfl b29 dX9_send_109 (fun H locs hP hD hS => ?_)
        obtain ⟨u30, eu30, h⟩ := gx_let h
        replace hP : va_P D vwCl (wC cI cZ ad u30) H := by rw [← eu30]; exact hP
        replace hD : va_D A (wC cI cZ ad u30) := by rw [← eu30]; exact hD
        refine lv_aload_n hx hb dX9_send_110 rfl (lv_at hl 1 rfl) ?_
        refine va_get (D := D) (ci := 9) (v := .ref (ad 7)) (C := RX9) (T := TX9) (N := 10) hx hb hts iX9 hown hK hP 0 rfl rfl 7 (by decide) hf58 (fun _ h9 => h9) rfl dX9_send_111 ?_
        refine va_get (D := D) (ci := 4) (v := .ref (ad 27)) (C := RX4) (T := TX4) (N := 3) hx hb hts iX4 hown hK hP 7 rfl rfl 1 (by decide) hf229 (fun _ h9 => h9) rfl dX9_send_114 ?_
        refine lv_iload_n hx hb dX9_send_117 rfl (lv_at hl 2 rfl) ?_
        refine lv_iload_n hx hb dX9_send_118 rfl (lv_at hl 3 rfl) ?_
        obtain ⟨b31, h⟩ := gx_in h
        refine va_iast (D := D) hx hb hK hP hD hS 27 0 rfl rfl b31 dX9_send_119 (fun H locs hP hD hS => ?_)
        obtain ⟨u32, eu32, h⟩ := gx_let h
        replace hP : va_P D vwCl (wC cI cZ ad u32) H := by rw [← eu32]; exact hP
        replace hD : va_D A (wC cI cZ ad u32) := by rw [← eu32]; exact hD
        refine lv_aload_n hx hb dX9_send_120 rfl (lv_at hl 1 rfl) ?_
        refine va_get (D := D) (ci := 9) (v := .ref (ad 7)) (C := RX9) (T := TX9) (N := 10) hx hb hts iX9 hown hK hP 0 rfl rfl 7 (by decide) hf58 (fun _ h9 => h9) rfl dX9_send_121 ?_
        refine va_get (D := D) (ci := 4) (v := .ref (ad 28)) (C := RX4) (T := TX4) (N := 3) hx hb hts iX4 hown hK hP 7 rfl rfl 2 (by decide) hf231 (fun _ h9 => h9) rfl dX9_send_124 ?_
        refine lv_iload_n hx hb dX9_send_127 rfl (lv_at hl 2 rfl) ?_
        refine lv_iload_n hx hb dX9_send_128 rfl (lv_at hl 0 rfl) ?_
        refine lv_iconst (v := 5) hx hb dX9_send_129 (by decide) ?_
        refine lv_iadd hx hb dX9_send_130 ?_
        obtain ⟨b33, h⟩ := gx_in h
        refine va_iast (D := D) hx hb hK hP hD hS 28 0 rfl rfl b33 dX9_send_131 (fun H locs hP hD hS => ?_)
        obtain ⟨u34, eu34, h⟩ := gx_let h
        replace hP : va_P D vwCl (wC cI cZ ad u34) H := by rw [← eu34]; exact hP
        replace hD : va_D A (wC cI cZ ad u34) := by rw [← eu34]; exact hD
        refine lv_aload_n hx hb dX9_send_132 rfl (lv_at hl 1 rfl) ?_
        refine va_get (D := D) (ci := 9) (v := .ref (ad 7)) (C := RX9) (T := TX9) (N := 10) hx hb hts iX9 hown hK hP 0 rfl rfl 7 (by decide) hf58 (fun _ h9 => h9) rfl dX9_send_133 ?_
        refine va_get (D := D) (ci := 4) (v := .ref (ad 28)) (C := RX4) (T := TX4) (N := 3) hx hb hts iX4 hown hK hP 7 rfl rfl 2 (by decide) hf231 (fun _ h9 => h9) rfl dX9_send_136 ?_
        refine lv_iload_n hx hb dX9_send_139 rfl (lv_at hl 2 rfl) ?_
        obtain ⟨b35, h⟩ := gx_in h
        refine va_iald (D := D) hx hb hK hP 28 0 rfl rfl b35 dX9_send_140 ?_
        cases h
        exact cc_ret hx hb hr rfl hQ hK hP hD hS rfl dX9_send_141 hlocks
      refine lv_icmp_ne (tgt := 74) hx hb dX9_send_67 (by decide) (fun c36 => ?_) (fun c36 => ?_)
      · replace h := gx_f c36 h
        refine lv_iconst (v := 0) hx hb dX9_send_74 (by decide) ?_
        exact hj75_20 (0 : Int32) _ _ _ h hP hD hS (lv_sub hl [0, 1, 2] rfl)
      · replace h := gx_t c36 h
        refine lv_iconst (v := 1) hx hb dX9_send_70 (by decide) ?_
        refine lv_goto (tgt := 75) hx hb dX9_send_71 (by decide) ?_
        exact hj75_20 (1 : Int32) _ _ _ h hP hD hS (lv_sub hl [0, 1, 2] rfl)
    refine lv_icmp_ne (tgt := 53) hx hb dX9_send_46 (by decide) (fun c37 => ?_) (fun c37 => ?_)
    · replace h := gx_f c37 h
      refine lv_iconst (v := 0) hx hb dX9_send_53 (by decide) ?_
      exact hj54_15 (0 : Int32) _ _ _ h hP hD hS (lv_sub hl [0, 1, 2] rfl)
    · replace h := gx_t c37 h
      refine lv_iconst (v := 1) hx hb dX9_send_49 (by decide) ?_
      refine lv_goto (tgt := 54) hx hb dX9_send_50 (by decide) ?_
      exact hj54_15 (1 : Int32) _ _ _ h hP hD hS (lv_sub hl [0, 1, 2] rfl)
  refine lv_icmp_ne (tgt := 32) hx hb dX9_send_25 (by decide) (fun c38 => ?_) (fun c38 => ?_)
  · replace h := gx_f c38 h
    refine lv_iconst (v := 0) hx hb dX9_send_32 (by decide) ?_
    exact hj33_10 (0 : Int32) _ _ _ h hP hD hS (lv_sub hl [0, 1, 2] rfl)
  · replace h := gx_t c38 h
    refine lv_iconst (v := 1) hx hb dX9_send_28 (by decide) ?_
    refine lv_goto (tgt := 33) hx hb dX9_send_29 (by decide) ?_
    exact hj33_10 (1 : Int32) _ _ _ h hP hD hS (lv_sub hl [0, 1, 2] rfl)

def rx_X9_send : Room := { frames := 8, cells := 1, slots := 6, locals := 130 }
set_option maxHeartbeats 4000000 in
set_option maxRecDepth 100000 in
theorem kx_X9_send (l : Launch) (hl0 : l.stackTraces = false) (D : va_G) (cI cZ : ClassId) (ad : Nat → Nat) (u : GS) (p0 : Int32) (p1 : Int32) {E : String} {w' : GS} (h : g_X9_send u p0 p1 = some (.inr E, w')) : XI l yX9_send (wm yX9_send cX9_send 4 (some .int)) rx_X9_send D [(cI, .int), (cZ, .boolean)] (wC cI cZ ad u) (wC cI cZ ad w') [.ref (ad 0), .int p0, .int p1] E := by
  intro sz
  refine vx_ofW (cc := cX9_send) (maxL := 4) (ret := (some .int)) (by decide) rfl ?_
  intro p e s m args below meth c s₁ B hml hout hv
  obtain ⟨rfl, hsz, hP, hK, hD0, hZ⟩ := hv
  have hx := B.exec
  have hb := B.bytes
  have hts : ∀ w ∈ Wall, w.before _ s = true := fun w hw => atoms_spec (ws := wm yX9_send cX9_send 4 (some .int)) B.pre w (List.mem_cons_of_mem _ hw)
  have hown : s.vm.findClass RX9 = some m.cls := findClass_of_methodNamed B.named
  have hlocks := B.notSynchronized
  subst hsz
  have hD := hD0.self (sz := s.heap.size)
  generalize hAe : va_A (wC cI cZ ad u) s.heap.size = A at hD hZ
  have hA : ∀ q : Nat, s.heap.size ≤ q → A q := fun q h => by rw [← hAe]; exact Or.inr h
  have hS : va_S A s.heap s.heap [] := va_S.rf
  have hf51 := hts _ mw_310
  have hf58 := hts _ mw_311
  have hf229 := hts _ mw_211
  have hf206 := hts _ mw_189
  have hf218 := hts _ mw_191
  have hf223 := hts _ mw_209
  have hf231 := hts _ mw_213
  have hl := lv_entry ([.ref (ad 0), .int p0, .int p1]) (n := 4) (Nat.le_of_ble_eq_true rfl)
  rw [lg_entry_eq]
  generalize (lg_sl ([.ref (ad 0), .int p0, .int p1]) ++ List.replicate (4 - (lg_sl ([.ref (ad 0), .int p0, .int p1])).length) Slot.unset).toArray = ls at hl ⊢
  replace hl : lv_has ls 4 [(0, .ref (ad 0)), (1, .int p0), (2, .int p1)] := hl
  refine w_gen (fun Q hQ => ?_)
  refine lv_iload_n hx hb dX9_send_0 rfl (lv_at hl 1 rfl) ?_
  rcases gx_xx h with ⟨y1, u2, hc3, h⟩ | ⟨u2, hc3, ew⟩
  · refine cc_vS (As := [.int p0]) (rest := []) ⟨hx, hb, hml, hown, hts⟩ (k_X9_needPatrol l D cI cZ ad u p0 hc3) (va_cwS 1 hts (gwS mw_747 mw_748 mw_48 mw_749) rfl rfl rfl (by decide +kernel) ⟨Nat.le_of_ble_eq_true rfl, Nat.le_of_ble_eq_true rfl⟩) hK hP hD hS hA hZ rfl hl.1 rfl (Nat.le_of_ble_eq_true rfl) dX9_send_1 ⟨Nat.zero_le _, Nat.zero_le _⟩ (fun H locs hP hD hS => ?_)
    refine lv_aload_n hx hb dX9_send_4 rfl (lv_at hl 0 rfl) ?_
    refine va_get (D := D) (ci := 9) (v := .ref (ad 6)) (C := RX9) (T := TX9) (N := 10) hx hb hts iX9 hown hK hP 0 rfl rfl 6 (by decide) hf51 (fun _ h9 => h9) rfl dX9_send_5 ?_
    refine lv_iload_n hx hb dX9_send_8 rfl (lv_at hl 2 rfl) ?_
    obtain ⟨y4, hc5, h⟩ := gx_bind h
    refine cc_iV (As := [.int p1]) (rest := []) ⟨hx, hb, hml, hown, hts⟩ (k_X2_has l D cI cZ ad u2 p1 hc5) (cwV 1 hts (gwV mw_502 mw_503 mw_504 mw_54 mw_505) rfl rfl rfl (by decide +kernel) ⟨Nat.le_of_ble_eq_true rfl, Nat.le_of_ble_eq_true rfl⟩) hK hP hD hS hA hZ (ci := 2) (q0 := 6) rfl rfl rfl hl.1 rfl (Nat.le_of_ble_eq_true rfl) dX9_send_9 ⟨Nat.zero_le _, Nat.zero_le _⟩ (fun H locs hP hD hS => ?_)
    rcases gx_xx h with ⟨y6, u7, hc8, h⟩ | ⟨u7, hc8, ew⟩
    · refine cc_vS (As := [.int y4]) (rest := []) ⟨hx, hb, hml, hown, hts⟩ (k_X9_needIndex l D cI cZ ad u2 y4 hc8) (va_cwS 1 hts (gwS mw_598 mw_599 mw_48 mw_600) rfl rfl rfl (by decide +kernel) ⟨Nat.le_of_ble_eq_true rfl, Nat.le_of_ble_eq_true rfl⟩) hK hP hD hS hA hZ rfl hl.1 rfl (Nat.le_of_ble_eq_true rfl) dX9_send_12 ⟨Nat.zero_le _, Nat.zero_le _⟩ (fun H locs hP hD hS => ?_)
      refine lv_aload_n hx hb dX9_send_15 rfl (lv_at hl 0 rfl) ?_
      refine va_get (D := D) (ci := 9) (v := .ref (ad 7)) (C := RX9) (T := TX9) (N := 10) hx hb hts iX9 hown hK hP 0 rfl rfl 7 (by decide) hf58 (fun _ h9 => h9) rfl dX9_send_16 ?_
      refine va_get (D := D) (ci := 4) (v := .ref (ad 27)) (C := RX4) (T := TX4) (N := 3) hx hb hts iX4 hown hK hP 7 rfl rfl 1 (by decide) hf229 (fun _ h9 => h9) rfl dX9_send_19 ?_
      refine lv_iload_n hx hb dX9_send_22 rfl (lv_at hl 1 rfl) ?_
      obtain ⟨b9, h⟩ := gx_in h
      refine va_iald (D := D) hx hb hK hP 27 0 rfl rfl b9 dX9_send_23 ?_
      refine lv_iconst (v := (-1)) hx hb dX9_send_24 (by decide) ?_
      obtain ⟨j33_10, ej33_10, h⟩ := gx_let h
      have hj33_10 : ∀ (z0_33 : Int32) (H : Heap) (locs : List Loc) (ls : Array Slot), j33_10 z0_33 = some (.inr E, w') → va_P D vwCl (wC cI cZ ad u7) H → va_D A (wC cI cZ ad u7) → va_S A s.heap H locs → lv_has ls 4 [(0, .ref (ad 0)), (1, .int p0), (2, .int p1)] → W p l e rx_X9_send s m ([.ref (ad 0), .int p0, .int p1] : List Value).toArray below meth c H locs 0 0 Q (F0 m 33 ls [.int z0_33]) := by
        intro z0_33 H locs ls h hP hD hS hl
        subst ej33_10
        rcases gx_xx h with ⟨y11, u12, hc13, h⟩ | ⟨u12, hc13, ew⟩
        · refine cc_vS (As := [.int z0_33]) (rest := []) ⟨hx, hb, hml, hown, hts⟩ (k_X9_needState l D cI cZ ad u7 z0_33 hc13) (va_cwS 1 hts (gwS mw_471 mw_472 mw_48 mw_473) rfl rfl rfl (by decide +kernel) ⟨Nat.le_of_ble_eq_true rfl, Nat.le_of_ble_eq_true rfl⟩) hK hP hD hS hA hZ rfl hl.1 rfl (Nat.le_of_ble_eq_true rfl) dX9_send_33 ⟨Nat.zero_le _, Nat.zero_le _⟩ (fun H locs hP hD hS => ?_)
          refine lv_aload_n hx hb dX9_send_36 rfl (lv_at hl 0 rfl) ?_
          refine va_get (D := D) (ci := 9) (v := .ref (ad 6)) (C := RX9) (T := TX9) (N := 10) hx hb hts iX9 hown hK hP 0 rfl rfl 6 (by decide) hf51 (fun _ h9 => h9) rfl dX9_send_37 ?_
          refine va_get (D := D) (ci := 2) (v := .ref (ad 24)) (C := RX2) (T := TX2) (N := 4) hx hb hts iX2 hown hK hP 6 rfl rfl 1 (by decide) hf206 (fun _ h9 => h9) rfl dX9_send_40 ?_
          refine lv_iload_n hx hb dX9_send_43 rfl (lv_at hl 2 rfl) ?_
          obtain ⟨b14, h⟩ := gx_in h
          refine va_iald (D := D) hx hb hK hP 24 0 rfl rfl b14 dX9_send_44 ?_
          refine lv_iconst (v := 1) hx hb dX9_send_45 (by decide) ?_
          obtain ⟨j54_15, ej54_15, h⟩ := gx_let h
          have hj54_15 : ∀ (z0_54 : Int32) (H : Heap) (locs : List Loc) (ls : Array Slot), j54_15 z0_54 = some (.inr E, w') → va_P D vwCl (wC cI cZ ad u12) H → va_D A (wC cI cZ ad u12) → va_S A s.heap H locs → lv_has ls 4 [(0, .ref (ad 0)), (1, .int p0), (2, .int p1)] → W p l e rx_X9_send s m ([.ref (ad 0), .int p0, .int p1] : List Value).toArray below meth c H locs 0 0 Q (F0 m 54 ls [.int z0_54]) := by
            intro z0_54 H locs ls h hP hD hS hl
            subst ej54_15
            rcases gx_xx h with ⟨y16, u17, hc18, h⟩ | ⟨u17, hc18, ew⟩
            · refine cc_vS (As := [.int z0_54]) (rest := []) ⟨hx, hb, hml, hown, hts⟩ (k_X9_needState l D cI cZ ad u12 z0_54 hc18) (va_cwS 1 hts (gwS mw_471 mw_472 mw_48 mw_473) rfl rfl rfl (by decide +kernel) ⟨Nat.le_of_ble_eq_true rfl, Nat.le_of_ble_eq_true rfl⟩) hK hP hD hS hA hZ rfl hl.1 rfl (Nat.le_of_ble_eq_true rfl) dX9_send_54 ⟨Nat.zero_le _, Nat.zero_le _⟩ (fun H locs hP hD hS => ?_)
              refine lv_aload_n hx hb dX9_send_57 rfl (lv_at hl 0 rfl) ?_
              refine va_get (D := D) (ci := 9) (v := .ref (ad 6)) (C := RX9) (T := TX9) (N := 10) hx hb hts iX9 hown hK hP 0 rfl rfl 6 (by decide) hf51 (fun _ h9 => h9) rfl dX9_send_58 ?_
              refine va_get (D := D) (ci := 2) (v := .ref (ad 25)) (C := RX2) (T := TX2) (N := 4) hx hb hts iX2 hown hK hP 6 rfl rfl 2 (by decide) hf218 (fun _ h9 => h9) rfl dX9_send_61 ?_
              refine lv_iload_n hx hb dX9_send_64 rfl (lv_at hl 2 rfl) ?_
              obtain ⟨b19, h⟩ := gx_in h
              refine va_iald (D := D) hx hb hK hP 25 0 rfl rfl b19 dX9_send_65 ?_
              refine lv_iconst (v := (-1)) hx hb dX9_send_66 (by decide) ?_
              obtain ⟨j75_20, ej75_20, h⟩ := gx_let h
              have hj75_20 : ∀ (z0_75 : Int32) (H : Heap) (locs : List Loc) (ls : Array Slot), j75_20 z0_75 = some (.inr E, w') → va_P D vwCl (wC cI cZ ad u17) H → va_D A (wC cI cZ ad u17) → va_S A s.heap H locs → lv_has ls 4 [(0, .ref (ad 0)), (1, .int p0), (2, .int p1)] → W p l e rx_X9_send s m ([.ref (ad 0), .int p0, .int p1] : List Value).toArray below meth c H locs 0 0 Q (F0 m 75 ls [.int z0_75]) := by
                intro z0_75 H locs ls h hP hD hS hl
                subst ej75_20
                rcases gx_xx h with ⟨y21, u22, hc23, h⟩ | ⟨u22, hc23, ew⟩
                · refine cc_vS (As := [.int z0_75]) (rest := []) ⟨hx, hb, hml, hown, hts⟩ (k_X9_needState l D cI cZ ad u17 z0_75 hc23) (va_cwS 1 hts (gwS mw_471 mw_472 mw_48 mw_473) rfl rfl rfl (by decide +kernel) ⟨Nat.le_of_ble_eq_true rfl, Nat.le_of_ble_eq_true rfl⟩) hK hP hD hS hA hZ rfl hl.1 rfl (Nat.le_of_ble_eq_true rfl) dX9_send_75 ⟨Nat.zero_le _, Nat.zero_le _⟩ (fun H locs hP hD hS => ?_)
                  refine lv_aload_n hx hb dX9_send_78 rfl (lv_at hl 0 rfl) ?_
                  refine lv_aload_n hx hb dX9_send_79 rfl (lv_at hl 0 rfl) ?_
                  refine va_get (D := D) (ci := 9) (v := .ref (ad 7)) (C := RX9) (T := TX9) (N := 10) hx hb hts iX9 hown hK hP 0 rfl rfl 7 (by decide) hf58 (fun _ h9 => h9) rfl dX9_send_80 ?_
                  refine va_get (D := D) (ci := 4) (v := .ref (ad 26)) (C := RX4) (T := TX4) (N := 3) hx hb hts iX4 hown hK hP 7 rfl rfl 0 (by decide) hf223 (fun _ h9 => h9) rfl dX9_send_83 ?_
                  refine lv_iload_n hx hb dX9_send_86 rfl (lv_at hl 1 rfl) ?_
                  obtain ⟨b24, h⟩ := gx_in h
                  refine va_iald (D := D) hx hb hK hP 26 0 rfl rfl b24 dX9_send_87 ?_
                  refine lv_aload_n hx hb dX9_send_88 rfl (lv_at hl 0 rfl) ?_
                  refine va_get (D := D) (ci := 9) (v := .ref (ad 6)) (C := RX9) (T := TX9) (N := 10) hx hb hts iX9 hown hK hP 0 rfl rfl 6 (by decide) hf51 (fun _ h9 => h9) rfl dX9_send_89 ?_
                  refine lv_iload_n hx hb dX9_send_92 rfl (lv_at hl 2 rfl) ?_
                  obtain ⟨y25, hc26, h⟩ := gx_bind h
                  refine cc_iV (As := [.int p1]) (rest := [.int (cP_sections u22 p0.toNatClampNeg), .ref (ad 0)]) ⟨hx, hb, hml, hown, hts⟩ (k_X2_sectionOf l D cI cZ ad u22 p1 hc26) (cwV 1 hts (gwV mw_511 mw_512 mw_513 mw_54 mw_514) rfl rfl rfl (by decide +kernel) ⟨Nat.le_of_ble_eq_true rfl, Nat.le_of_ble_eq_true rfl⟩) hK hP hD hS hA hZ (ci := 2) (q0 := 6) rfl rfl rfl hl.1 rfl (Nat.le_of_ble_eq_true rfl) dX9_send_93 ⟨Nat.zero_le _, Nat.zero_le _⟩ (fun H locs hP hD hS => ?_)
                  obtain ⟨y27, hc28, h⟩ := gx_bind h
                  refine cc_iV (As := [.int (cP_sections u22 p0.toNatClampNeg), .int y25]) (rest := []) ⟨hx, hb, hml, hown, hts⟩ (k_X9_wayBetween l D cI cZ ad u22 (cP_sections u22 p0.toNatClampNeg) y25 hc28) (cwV 2 hts (gwV mw_750 mw_752 mw_14 mw_48 mw_753) rfl rfl rfl (by decide +kernel) ⟨Nat.le_of_ble_eq_true rfl, Nat.le_of_ble_eq_true rfl⟩) hK hP hD hS hA hZ (ci := 9) (q0 := 0) rfl rfl rfl hl.1 rfl (Nat.le_of_ble_eq_true rfl) dX9_send_96 ⟨Nat.zero_le _, Nat.zero_le _⟩ (fun H locs hP hD hS => ?_)
                  refine lv_istore_n (lv' := [(3, .int y27), (0, .ref (ad 0)), (1, .int p0), (2, .int p1)]) hx hb dX9_send_99 rfl hl (by decide) rfl (fun ls hl => ?_)
                  refine lv_aload_n hx hb dX9_send_100 rfl (lv_at hl 1 rfl) ?_
                  refine va_get (D := D) (ci := 9) (v := .ref (ad 6)) (C := RX9) (T := TX9) (N := 10) hx hb hts iX9 hown hK hP 0 rfl rfl 6 (by decide) hf51 (fun _ h9 => h9) rfl dX9_send_101 ?_
                  refine va_get (D := D) (ci := 2) (v := .ref (ad 25)) (C := RX2) (T := TX2) (N := 4) hx hb hts iX2 hown hK hP 6 rfl rfl 2 (by decide) hf218 (fun _ h9 => h9) rfl dX9_send_104 ?_
                  refine lv_iload_n hx hb dX9_send_107 rfl (lv_at hl 3 rfl) ?_
                  refine lv_iload_n hx hb dX9_send_108 rfl (lv_at hl 2 rfl) ?_
                  obtain ⟨b29, h⟩ := gx_in h
                  refine va_iast (D := D) hx hb hK hP hD hS 25 0 rfl rfl b29 dX9_send_109 (fun H locs hP hD hS => ?_)
                  obtain ⟨u30, eu30, h⟩ := gx_let h
                  replace hP : va_P D vwCl (wC cI cZ ad u30) H := by rw [← eu30]; exact hP
                  replace hD : va_D A (wC cI cZ ad u30) := by rw [← eu30]; exact hD
                  refine lv_aload_n hx hb dX9_send_110 rfl (lv_at hl 1 rfl) ?_
                  refine va_get (D := D) (ci := 9) (v := .ref (ad 7)) (C := RX9) (T := TX9) (N := 10) hx hb hts iX9 hown hK hP 0 rfl rfl 7 (by decide) hf58 (fun _ h9 => h9) rfl dX9_send_111 ?_
                  refine va_get (D := D) (ci := 4) (v := .ref (ad 27)) (C := RX4) (T := TX4) (N := 3) hx hb hts iX4 hown hK hP 7 rfl rfl 1 (by decide) hf229 (fun _ h9 => h9) rfl dX9_send_114 ?_
                  refine lv_iload_n hx hb dX9_send_117 rfl (lv_at hl 2 rfl) ?_
                  refine lv_iload_n hx hb dX9_send_118 rfl (lv_at hl 3 rfl) ?_
                  obtain ⟨b31, h⟩ := gx_in h
                  refine va_iast (D := D) hx hb hK hP hD hS 27 0 rfl rfl b31 dX9_send_119 (fun H locs hP hD hS => ?_)
                  obtain ⟨u32, eu32, h⟩ := gx_let h
                  replace hP : va_P D vwCl (wC cI cZ ad u32) H := by rw [← eu32]; exact hP
                  replace hD : va_D A (wC cI cZ ad u32) := by rw [← eu32]; exact hD
                  refine lv_aload_n hx hb dX9_send_120 rfl (lv_at hl 1 rfl) ?_
                  refine va_get (D := D) (ci := 9) (v := .ref (ad 7)) (C := RX9) (T := TX9) (N := 10) hx hb hts iX9 hown hK hP 0 rfl rfl 7 (by decide) hf58 (fun _ h9 => h9) rfl dX9_send_121 ?_
                  refine va_get (D := D) (ci := 4) (v := .ref (ad 28)) (C := RX4) (T := TX4) (N := 3) hx hb hts iX4 hown hK hP 7 rfl rfl 2 (by decide) hf231 (fun _ h9 => h9) rfl dX9_send_124 ?_
                  refine lv_iload_n hx hb dX9_send_127 rfl (lv_at hl 2 rfl) ?_
                  refine lv_iload_n hx hb dX9_send_128 rfl (lv_at hl 0 rfl) ?_
                  refine lv_iconst (v := 5) hx hb dX9_send_129 (by decide) ?_
                  refine lv_iadd hx hb dX9_send_130 ?_
                  obtain ⟨b33, h⟩ := gx_in h
                  refine va_iast (D := D) hx hb hK hP hD hS 28 0 rfl rfl b33 dX9_send_131 (fun H locs hP hD hS => ?_)
                  obtain ⟨u34, eu34, h⟩ := gx_let h
                  replace hP : va_P D vwCl (wC cI cZ ad u34) H := by rw [← eu34]; exact hP
                  replace hD : va_D A (wC cI cZ ad u34) := by rw [← eu34]; exact hD
                  refine lv_aload_n hx hb dX9_send_132 rfl (lv_at hl 1 rfl) ?_
                  refine va_get (D := D) (ci := 9) (v := .ref (ad 7)) (C := RX9) (T := TX9) (N := 10) hx hb hts iX9 hown hK hP 0 rfl rfl 7 (by decide) hf58 (fun _ h9 => h9) rfl dX9_send_133 ?_
                  refine va_get (D := D) (ci := 4) (v := .ref (ad 28)) (C := RX4) (T := TX4) (N := 3) hx hb hts iX4 hown hK hP 7 rfl rfl 2 (by decide) hf231 (fun _ h9 => h9) rfl dX9_send_136 ?_
                  refine lv_iload_n hx hb dX9_send_139 rfl (lv_at hl 2 rfl) ?_
                  obtain ⟨b35, h⟩ := gx_in h
                  refine va_iald (D := D) hx hb hK hP 28 0 rfl rfl b35 dX9_send_140 ?_
                  cases h
                · replace ew : u22 = w' := ew
                  subst ew
                  refine cX_vS (As := [.int z0_75]) (rest := []) ⟨hx, hb, hml, hown, hts⟩ (kx_X9_needState l hl0 D cI cZ ad u17 z0_75 hc23) (va_cwS 1 hts (gwS mw_471 mw_472 mw_48 mw_473) rfl rfl rfl (by decide +kernel) ⟨Nat.le_of_ble_eq_true rfl, Nat.le_of_ble_eq_true rfl⟩) hK hP hD hS hA hZ rfl hl.1 rfl (Nat.le_of_ble_eq_true rfl) dX9_send_75 ⟨Nat.le_of_ble_eq_true rfl, Nat.le_of_ble_eq_true rfl⟩ (fun ce q9 H locs hP hD hS h1 h2 h3 => ?_)
                  exact cX_back hAe hQ hout hlocks hK rfl hP hD hS h1 h2 h3 (Nat.le_refl _) (Nat.le_refl _)
              refine lv_icmp_ne (tgt := 74) hx hb dX9_send_67 (by decide) (fun c36 => ?_) (fun c36 => ?_)
              · replace h := gx_f c36 h
                refine lv_iconst (v := 0) hx hb dX9_send_74 (by decide) ?_
                exact hj75_20 (0 : Int32) _ _ _ h hP hD hS (lv_sub hl [0, 1, 2] rfl)
              · replace h := gx_t c36 h
                refine lv_iconst (v := 1) hx hb dX9_send_70 (by decide) ?_
                refine lv_goto (tgt := 75) hx hb dX9_send_71 (by decide) ?_
                exact hj75_20 (1 : Int32) _ _ _ h hP hD hS (lv_sub hl [0, 1, 2] rfl)
            · replace ew : u17 = w' := ew
              subst ew
              refine cX_vS (As := [.int z0_54]) (rest := []) ⟨hx, hb, hml, hown, hts⟩ (kx_X9_needState l hl0 D cI cZ ad u12 z0_54 hc18) (va_cwS 1 hts (gwS mw_471 mw_472 mw_48 mw_473) rfl rfl rfl (by decide +kernel) ⟨Nat.le_of_ble_eq_true rfl, Nat.le_of_ble_eq_true rfl⟩) hK hP hD hS hA hZ rfl hl.1 rfl (Nat.le_of_ble_eq_true rfl) dX9_send_54 ⟨Nat.le_of_ble_eq_true rfl, Nat.le_of_ble_eq_true rfl⟩ (fun ce q9 H locs hP hD hS h1 h2 h3 => ?_)
              exact cX_back hAe hQ hout hlocks hK rfl hP hD hS h1 h2 h3 (Nat.le_refl _) (Nat.le_refl _)
          refine lv_icmp_ne (tgt := 53) hx hb dX9_send_46 (by decide) (fun c37 => ?_) (fun c37 => ?_)
          · replace h := gx_f c37 h
            refine lv_iconst (v := 0) hx hb dX9_send_53 (by decide) ?_
            exact hj54_15 (0 : Int32) _ _ _ h hP hD hS (lv_sub hl [0, 1, 2] rfl)
          · replace h := gx_t c37 h
            refine lv_iconst (v := 1) hx hb dX9_send_49 (by decide) ?_
            refine lv_goto (tgt := 54) hx hb dX9_send_50 (by decide) ?_
            exact hj54_15 (1 : Int32) _ _ _ h hP hD hS (lv_sub hl [0, 1, 2] rfl)
        · replace ew : u12 = w' := ew
          subst ew
          refine cX_vS (As := [.int z0_33]) (rest := []) ⟨hx, hb, hml, hown, hts⟩ (kx_X9_needState l hl0 D cI cZ ad u7 z0_33 hc13) (va_cwS 1 hts (gwS mw_471 mw_472 mw_48 mw_473) rfl rfl rfl (by decide +kernel) ⟨Nat.le_of_ble_eq_true rfl, Nat.le_of_ble_eq_true rfl⟩) hK hP hD hS hA hZ rfl hl.1 rfl (Nat.le_of_ble_eq_true rfl) dX9_send_33 ⟨Nat.le_of_ble_eq_true rfl, Nat.le_of_ble_eq_true rfl⟩ (fun ce q9 H locs hP hD hS h1 h2 h3 => ?_)
          exact cX_back hAe hQ hout hlocks hK rfl hP hD hS h1 h2 h3 (Nat.le_refl _) (Nat.le_refl _)
      refine lv_icmp_ne (tgt := 32) hx hb dX9_send_25 (by decide) (fun c38 => ?_) (fun c38 => ?_)
      · replace h := gx_f c38 h
        refine lv_iconst (v := 0) hx hb dX9_send_32 (by decide) ?_
        exact hj33_10 (0 : Int32) _ _ _ h hP hD hS (lv_sub hl [0, 1, 2] rfl)
      · replace h := gx_t c38 h
        refine lv_iconst (v := 1) hx hb dX9_send_28 (by decide) ?_
        refine lv_goto (tgt := 33) hx hb dX9_send_29 (by decide) ?_
        exact hj33_10 (1 : Int32) _ _ _ h hP hD hS (lv_sub hl [0, 1, 2] rfl)
    · replace ew : u7 = w' := ew
      subst ew
      refine cX_vS (As := [.int y4]) (rest := []) ⟨hx, hb, hml, hown, hts⟩ (kx_X9_needIndex l hl0 D cI cZ ad u2 y4 hc8) (va_cwS 1 hts (gwS mw_598 mw_599 mw_48 mw_600) rfl rfl rfl (by decide +kernel) ⟨Nat.le_of_ble_eq_true rfl, Nat.le_of_ble_eq_true rfl⟩) hK hP hD hS hA hZ rfl hl.1 rfl (Nat.le_of_ble_eq_true rfl) dX9_send_12 ⟨Nat.le_of_ble_eq_true rfl, Nat.le_of_ble_eq_true rfl⟩ (fun ce q9 H locs hP hD hS h1 h2 h3 => ?_)
      exact cX_back hAe hQ hout hlocks hK rfl hP hD hS h1 h2 h3 (Nat.le_refl _) (Nat.le_refl _)
  · replace ew : u2 = w' := ew
    subst ew
    refine cX_vS (As := [.int p0]) (rest := []) ⟨hx, hb, hml, hown, hts⟩ (kx_X9_needPatrol l hl0 D cI cZ ad u p0 hc3) (va_cwS 1 hts (gwS mw_747 mw_748 mw_48 mw_749) rfl rfl rfl (by decide +kernel) ⟨Nat.le_of_ble_eq_true rfl, Nat.le_of_ble_eq_true rfl⟩) hK hP hD hS hA hZ rfl hl.1 rfl (Nat.le_of_ble_eq_true rfl) dX9_send_1 ⟨Nat.le_of_ble_eq_true rfl, Nat.le_of_ble_eq_true rfl⟩ (fun ce q9 H locs hP hD hS h1 h2 h3 => ?_)
    exact cX_back hAe hQ hout hlocks hK rfl hP hD hS h1 h2 h3 (Nat.le_refl _) (Nat.le_refl _)

def rX9_patrol : Room := { frames := 2, cells := 0, slots := 0, locals := 42 }
set_option maxHeartbeats 4000000 in
set_option maxRecDepth 100000 in
theorem k_X9_patrol (l : Launch) (D : va_G) (cI cZ : ClassId) (ad : Nat → Nat) (u : GS) (p0 : Int32) (p1 : Int32) {r : Int32} {w' : GS} (h : g_X9_patrol u p0 p1 = some (.inl r, w')) : MI l yX9_patrol (wm yX9_patrol cX9_patrol 3 (some .int)) rX9_patrol D [(cI, .int), (cZ, .boolean)] (wC cI cZ ad u) (wC cI cZ ad w') [.ref (ad 0), .int p0, .int p1] r := by
  intro sz
  refine Met.ofW (cc := cX9_patrol) (maxL := 3) (ret := (some .int)) (by decide) rfl ?_
  intro p e s m args below meth c s₁ B hml hv
  obtain ⟨rfl, hsz, hP, hK, hD0, hZ⟩ := hv
  have hx := B.exec
  have hb := B.bytes
  have hr := B.returns
  have hts : ∀ w ∈ Wall, w.before _ s = true := fun w hw => atoms_spec (ws := wm yX9_patrol cX9_patrol 3 (some .int)) B.pre w (List.mem_cons_of_mem _ hw)
  have hown : s.vm.findClass RX9 = some m.cls := findClass_of_methodNamed B.named
  have hlocks := B.notSynchronized
  subst hsz
  have hD := hD0.self (sz := s.heap.size)
  generalize hAe : va_A (wC cI cZ ad u) s.heap.size = A at hD hZ ⊢
  have hA : ∀ q : Nat, s.heap.size ≤ q → A q := fun q h => by rw [← hAe]; exact Or.inr h
  have hS : va_S A s.heap s.heap [] := va_S.rf
  have hf58 := hts _ mw_311
  have hf223 := hts _ mw_209
  have hf229 := hts _ mw_211
  have hf231 := hts _ mw_213
  have hl := lv_entry ([.ref (ad 0), .int p0, .int p1]) (n := 3) (Nat.le_of_ble_eq_true rfl)
  rw [lg_entry_eq]
  generalize (lg_sl ([.ref (ad 0), .int p0, .int p1]) ++ List.replicate (3 - (lg_sl ([.ref (ad 0), .int p0, .int p1])).length) Slot.unset).toArray = ls at hl ⊢
  replace hl : lv_has ls 3 [(0, .ref (ad 0)), (1, .int p0), (2, .int p1)] := hl
  refine w_gen (fun Q hQ => ?_)
  refine lv_iload_n hx hb dX9_patrol_0 rfl (lv_at hl 1 rfl) ?_
  obtain ⟨y1, u2, hc3, h⟩ := gx_xr h
  refine cc_vS (As := [.int p0]) (rest := []) ⟨hx, hb, hml, hown, hts⟩ (k_X9_needPatrol l D cI cZ ad u p0 hc3) (va_cwS 1 hts (gwS mw_747 mw_748 mw_48 mw_749) rfl rfl rfl (by decide +kernel) ⟨Nat.le_of_ble_eq_true rfl, Nat.le_of_ble_eq_true rfl⟩) hK hP hD hS hA hZ rfl hl.1 rfl (Nat.le_of_ble_eq_true rfl) dX9_patrol_1 ⟨Nat.zero_le _, Nat.zero_le _⟩ (fun H locs hP hD hS => ?_)
  refine lv_iload_n hx hb dX9_patrol_4 rfl (lv_at hl 2 rfl) ?_
  refine lv_iconst (v := 0) hx hb dX9_patrol_5 (by decide) ?_
  refine lv_iconst (v := 2) hx hb dX9_patrol_6 (by decide) ?_
  obtain ⟨y4, hc5, h⟩ := gx_bind h
  refine cc_iS (As := [.int p1, .int (0 : Int32), .int (2 : Int32)]) (rest := []) ⟨hx, hb, hml, hown, hts⟩ (k_X9_isWithin l D cI cZ ad u2 p1 (0 : Int32) (2 : Int32) hc5) (va_cwS 3 hts (gwS mw_391 mw_273 mw_48 mw_274) rfl rfl rfl (by decide +kernel) ⟨Nat.le_of_ble_eq_true rfl, Nat.le_of_ble_eq_true rfl⟩) hK hP hD hS hA hZ rfl hl.1 rfl (Nat.le_of_ble_eq_true rfl) dX9_patrol_7 ⟨Nat.zero_le _, Nat.zero_le _⟩ (fun H locs hP hD hS => ?_)
  obtain ⟨y6, u7, hc8, h⟩ := gx_xr h
  refine cc_vS (As := [.int y4]) (rest := []) ⟨hx, hb, hml, hown, hts⟩ (k_X9_needArgument l D cI cZ ad u2 y4 hc8) (va_cwS 1 hts (gwS mw_392 mw_393 mw_48 mw_394) rfl rfl rfl (by decide +kernel) ⟨Nat.le_of_ble_eq_true rfl, Nat.le_of_ble_eq_true rfl⟩) hK hP hD hS hA hZ rfl hl.1 rfl (Nat.le_of_ble_eq_true rfl) dX9_patrol_10 ⟨Nat.zero_le _, Nat.zero_le _⟩ (fun H locs hP hD hS => ?_)
  refine lv_iload_n hx hb dX9_patrol_13 rfl (lv_at hl 2 rfl) ?_
  by_cases c14_0 : p1 = 0
  · replace h := gx_t c14_0 h
    refine lv_lookup (tgt := 40) (off := 26) hx hb dX9_patrol_14 (by decide) (by rw [c14_0]; decide) (by decide) ?_
    refine lv_aload_n hx hb dX9_patrol_40 rfl (lv_at hl 0 rfl) ?_
    refine va_get (D := D) (ci := 9) (v := .ref (ad 7)) (C := RX9) (T := TX9) (N := 10) hx hb hts iX9 hown hK hP 0 rfl rfl 7 (by decide) hf58 (fun _ h9 => h9) rfl dX9_patrol_41 ?_
    refine va_get (D := D) (ci := 4) (v := .ref (ad 26)) (C := RX4) (T := TX4) (N := 3) hx hb hts iX4 hown hK hP 7 rfl rfl 0 (by decide) hf223 (fun _ h9 => h9) rfl dX9_patrol_44 ?_
    refine lv_iload_n hx hb dX9_patrol_47 rfl (lv_at hl 1 rfl) ?_
    obtain ⟨b9, h⟩ := gx_in h
    refine va_iald (D := D) hx hb hK hP 26 0 rfl rfl b9 dX9_patrol_48 ?_
    cases h
    exact cc_ret hx hb hr rfl hQ hK hP hD hS rfl dX9_patrol_49 hlocks
  · replace h := gx_f c14_0 h
    by_cases c14_1 : p1 = 1
    · replace h := gx_t c14_1 h
      refine lv_lookup (tgt := 50) (off := 36) hx hb dX9_patrol_14 (by decide) (by rw [c14_1]; decide) (by decide) ?_
      refine lv_aload_n hx hb dX9_patrol_50 rfl (lv_at hl 0 rfl) ?_
      refine va_get (D := D) (ci := 9) (v := .ref (ad 7)) (C := RX9) (T := TX9) (N := 10) hx hb hts iX9 hown hK hP 0 rfl rfl 7 (by decide) hf58 (fun _ h9 => h9) rfl dX9_patrol_51 ?_
      refine va_get (D := D) (ci := 4) (v := .ref (ad 27)) (C := RX4) (T := TX4) (N := 3) hx hb hts iX4 hown hK hP 7 rfl rfl 1 (by decide) hf229 (fun _ h9 => h9) rfl dX9_patrol_54 ?_
      refine lv_iload_n hx hb dX9_patrol_57 rfl (lv_at hl 1 rfl) ?_
      obtain ⟨b10, h⟩ := gx_in h
      refine va_iald (D := D) hx hb hK hP 27 0 rfl rfl b10 dX9_patrol_58 ?_
      cases h
      exact cc_ret hx hb hr rfl hQ hK hP hD hS rfl dX9_patrol_59 hlocks
    · replace h := gx_f c14_1 h
      have t14_0 := gx_sw0 (n := 0) rfl c14_0
      have t14_1 := gx_sw0 (n := 1) rfl c14_1
      refine lv_lookup (tgt := 60) (off := 46) hx hb dX9_patrol_14 (by decide) (by simp [Op.lookupswitch.offset, Ne.symm t14_0, Ne.symm t14_1]) (by decide) ?_
      refine lv_aload_n hx hb dX9_patrol_60 rfl (lv_at hl 0 rfl) ?_
      refine va_get (D := D) (ci := 9) (v := .ref (ad 7)) (C := RX9) (T := TX9) (N := 10) hx hb hts iX9 hown hK hP 0 rfl rfl 7 (by decide) hf58 (fun _ h9 => h9) rfl dX9_patrol_61 ?_
      refine va_get (D := D) (ci := 4) (v := .ref (ad 28)) (C := RX4) (T := TX4) (N := 3) hx hb hts iX4 hown hK hP 7 rfl rfl 2 (by decide) hf231 (fun _ h9 => h9) rfl dX9_patrol_64 ?_
      refine lv_iload_n hx hb dX9_patrol_67 rfl (lv_at hl 1 rfl) ?_
      obtain ⟨b11, h⟩ := gx_in h
      refine va_iald (D := D) hx hb hK hP 28 0 rfl rfl b11 dX9_patrol_68 ?_
      cases h
      exact cc_ret hx hb hr rfl hQ hK hP hD hS rfl dX9_patrol_69 hlocks

def rx_X9_patrol : Room := { frames := 8, cells := 1, slots := 6, locals := 130 }
set_option maxHeartbeats 4000000 in
set_option maxRecDepth 100000 in
theorem kx_X9_patrol (l : Launch) (hl0 : l.stackTraces = false) (D : va_G) (cI cZ : ClassId) (ad : Nat → Nat) (u : GS) (p0 : Int32) (p1 : Int32) {E : String} {w' : GS} (h : g_X9_patrol u p0 p1 = some (.inr E, w')) : XI l yX9_patrol (wm yX9_patrol cX9_patrol 3 (some .int)) rx_X9_patrol D [(cI, .int), (cZ, .boolean)] (wC cI cZ ad u) (wC cI cZ ad w') [.ref (ad 0), .int p0, .int p1] E := by
  intro sz
  refine vx_ofW (cc := cX9_patrol) (maxL := 3) (ret := (some .int)) (by decide) rfl ?_
  intro p e s m args below meth c s₁ B hml hout hv
  obtain ⟨rfl, hsz, hP, hK, hD0, hZ⟩ := hv
  have hx := B.exec
  have hb := B.bytes
  have hts : ∀ w ∈ Wall, w.before _ s = true := fun w hw => atoms_spec (ws := wm yX9_patrol cX9_patrol 3 (some .int)) B.pre w (List.mem_cons_of_mem _ hw)
  have hown : s.vm.findClass RX9 = some m.cls := findClass_of_methodNamed B.named
  have hlocks := B.notSynchronized
  subst hsz
  have hD := hD0.self (sz := s.heap.size)
  generalize hAe : va_A (wC cI cZ ad u) s.heap.size = A at hD hZ
  have hA : ∀ q : Nat, s.heap.size ≤ q → A q := fun q h => by rw [← hAe]; exact Or.inr h
  have hS : va_S A s.heap s.heap [] := va_S.rf
  have hf58 := hts _ mw_311
  have hf223 := hts _ mw_209
  have hf229 := hts _ mw_211
  have hf231 := hts _ mw_213
  have hl := lv_entry ([.ref (ad 0), .int p0, .int p1]) (n := 3) (Nat.le_of_ble_eq_true rfl)
  rw [lg_entry_eq]
  generalize (lg_sl ([.ref (ad 0), .int p0, .int p1]) ++ List.replicate (3 - (lg_sl ([.ref (ad 0), .int p0, .int p1])).length) Slot.unset).toArray = ls at hl ⊢
  replace hl : lv_has ls 3 [(0, .ref (ad 0)), (1, .int p0), (2, .int p1)] := hl
  refine w_gen (fun Q hQ => ?_)
  refine lv_iload_n hx hb dX9_patrol_0 rfl (lv_at hl 1 rfl) ?_
  rcases gx_xx h with ⟨y1, u2, hc3, h⟩ | ⟨u2, hc3, ew⟩
  · refine cc_vS (As := [.int p0]) (rest := []) ⟨hx, hb, hml, hown, hts⟩ (k_X9_needPatrol l D cI cZ ad u p0 hc3) (va_cwS 1 hts (gwS mw_747 mw_748 mw_48 mw_749) rfl rfl rfl (by decide +kernel) ⟨Nat.le_of_ble_eq_true rfl, Nat.le_of_ble_eq_true rfl⟩) hK hP hD hS hA hZ rfl hl.1 rfl (Nat.le_of_ble_eq_true rfl) dX9_patrol_1 ⟨Nat.zero_le _, Nat.zero_le _⟩ (fun H locs hP hD hS => ?_)
    refine lv_iload_n hx hb dX9_patrol_4 rfl (lv_at hl 2 rfl) ?_
    refine lv_iconst (v := 0) hx hb dX9_patrol_5 (by decide) ?_
    refine lv_iconst (v := 2) hx hb dX9_patrol_6 (by decide) ?_
    obtain ⟨y4, hc5, h⟩ := gx_bind h
    refine cc_iS (As := [.int p1, .int (0 : Int32), .int (2 : Int32)]) (rest := []) ⟨hx, hb, hml, hown, hts⟩ (k_X9_isWithin l D cI cZ ad u2 p1 (0 : Int32) (2 : Int32) hc5) (va_cwS 3 hts (gwS mw_391 mw_273 mw_48 mw_274) rfl rfl rfl (by decide +kernel) ⟨Nat.le_of_ble_eq_true rfl, Nat.le_of_ble_eq_true rfl⟩) hK hP hD hS hA hZ rfl hl.1 rfl (Nat.le_of_ble_eq_true rfl) dX9_patrol_7 ⟨Nat.zero_le _, Nat.zero_le _⟩ (fun H locs hP hD hS => ?_)
    rcases gx_xx h with ⟨y6, u7, hc8, h⟩ | ⟨u7, hc8, ew⟩
    · refine cc_vS (As := [.int y4]) (rest := []) ⟨hx, hb, hml, hown, hts⟩ (k_X9_needArgument l D cI cZ ad u2 y4 hc8) (va_cwS 1 hts (gwS mw_392 mw_393 mw_48 mw_394) rfl rfl rfl (by decide +kernel) ⟨Nat.le_of_ble_eq_true rfl, Nat.le_of_ble_eq_true rfl⟩) hK hP hD hS hA hZ rfl hl.1 rfl (Nat.le_of_ble_eq_true rfl) dX9_patrol_10 ⟨Nat.zero_le _, Nat.zero_le _⟩ (fun H locs hP hD hS => ?_)
      refine lv_iload_n hx hb dX9_patrol_13 rfl (lv_at hl 2 rfl) ?_
      by_cases c14_0 : p1 = 0
      · replace h := gx_t c14_0 h
        refine lv_lookup (tgt := 40) (off := 26) hx hb dX9_patrol_14 (by decide) (by rw [c14_0]; decide) (by decide) ?_
        refine lv_aload_n hx hb dX9_patrol_40 rfl (lv_at hl 0 rfl) ?_
        refine va_get (D := D) (ci := 9) (v := .ref (ad 7)) (C := RX9) (T := TX9) (N := 10) hx hb hts iX9 hown hK hP 0 rfl rfl 7 (by decide) hf58 (fun _ h9 => h9) rfl dX9_patrol_41 ?_
        refine va_get (D := D) (ci := 4) (v := .ref (ad 26)) (C := RX4) (T := TX4) (N := 3) hx hb hts iX4 hown hK hP 7 rfl rfl 0 (by decide) hf223 (fun _ h9 => h9) rfl dX9_patrol_44 ?_
        refine lv_iload_n hx hb dX9_patrol_47 rfl (lv_at hl 1 rfl) ?_
        obtain ⟨b9, h⟩ := gx_in h
        refine va_iald (D := D) hx hb hK hP 26 0 rfl rfl b9 dX9_patrol_48 ?_
        cases h
      · replace h := gx_f c14_0 h
        by_cases c14_1 : p1 = 1
        · replace h := gx_t c14_1 h
          refine lv_lookup (tgt := 50) (off := 36) hx hb dX9_patrol_14 (by decide) (by rw [c14_1]; decide) (by decide) ?_
          refine lv_aload_n hx hb dX9_patrol_50 rfl (lv_at hl 0 rfl) ?_
          refine va_get (D := D) (ci := 9) (v := .ref (ad 7)) (C := RX9) (T := TX9) (N := 10) hx hb hts iX9 hown hK hP 0 rfl rfl 7 (by decide) hf58 (fun _ h9 => h9) rfl dX9_patrol_51 ?_
          refine va_get (D := D) (ci := 4) (v := .ref (ad 27)) (C := RX4) (T := TX4) (N := 3) hx hb hts iX4 hown hK hP 7 rfl rfl 1 (by decide) hf229 (fun _ h9 => h9) rfl dX9_patrol_54 ?_
          refine lv_iload_n hx hb dX9_patrol_57 rfl (lv_at hl 1 rfl) ?_
          obtain ⟨b10, h⟩ := gx_in h
          refine va_iald (D := D) hx hb hK hP 27 0 rfl rfl b10 dX9_patrol_58 ?_
          cases h
        · replace h := gx_f c14_1 h
          have t14_0 := gx_sw0 (n := 0) rfl c14_0
          have t14_1 := gx_sw0 (n := 1) rfl c14_1
          refine lv_lookup (tgt := 60) (off := 46) hx hb dX9_patrol_14 (by decide) (by simp [Op.lookupswitch.offset, Ne.symm t14_0, Ne.symm t14_1]) (by decide) ?_
          refine lv_aload_n hx hb dX9_patrol_60 rfl (lv_at hl 0 rfl) ?_
          refine va_get (D := D) (ci := 9) (v := .ref (ad 7)) (C := RX9) (T := TX9) (N := 10) hx hb hts iX9 hown hK hP 0 rfl rfl 7 (by decide) hf58 (fun _ h9 => h9) rfl dX9_patrol_61 ?_
          refine va_get (D := D) (ci := 4) (v := .ref (ad 28)) (C := RX4) (T := TX4) (N := 3) hx hb hts iX4 hown hK hP 7 rfl rfl 2 (by decide) hf231 (fun _ h9 => h9) rfl dX9_patrol_64 ?_
          refine lv_iload_n hx hb dX9_patrol_67 rfl (lv_at hl 1 rfl) ?_
          obtain ⟨b11, h⟩ := gx_in h
          refine va_iald (D := D) hx hb hK hP 28 0 rfl rfl b11 dX9_patrol_68 ?_
          cases h
    · replace ew : u7 = w' := ew
      subst ew
      refine cX_vS (As := [.int y4]) (rest := []) ⟨hx, hb, hml, hown, hts⟩ (kx_X9_needArgument l hl0 D cI cZ ad u2 y4 hc8) (va_cwS 1 hts (gwS mw_392 mw_393 mw_48 mw_394) rfl rfl rfl (by decide +kernel) ⟨Nat.le_of_ble_eq_true rfl, Nat.le_of_ble_eq_true rfl⟩) hK hP hD hS hA hZ rfl hl.1 rfl (Nat.le_of_ble_eq_true rfl) dX9_patrol_10 ⟨Nat.le_of_ble_eq_true rfl, Nat.le_of_ble_eq_true rfl⟩ (fun ce q9 H locs hP hD hS h1 h2 h3 => ?_)
      exact cX_back hAe hQ hout hlocks hK rfl hP hD hS h1 h2 h3 (Nat.le_refl _) (Nat.le_refl _)
  · replace ew : u2 = w' := ew
    subst ew
    refine cX_vS (As := [.int p0]) (rest := []) ⟨hx, hb, hml, hown, hts⟩ (kx_X9_needPatrol l hl0 D cI cZ ad u p0 hc3) (va_cwS 1 hts (gwS mw_747 mw_748 mw_48 mw_749) rfl rfl rfl (by decide +kernel) ⟨Nat.le_of_ble_eq_true rfl, Nat.le_of_ble_eq_true rfl⟩) hK hP hD hS hA hZ rfl hl.1 rfl (Nat.le_of_ble_eq_true rfl) dX9_patrol_1 ⟨Nat.le_of_ble_eq_true rfl, Nat.le_of_ble_eq_true rfl⟩ (fun ce q9 H locs hP hD hS h1 h2 h3 => ?_)
    exact cX_back hAe hQ hout hlocks hK rfl hP hD hS h1 h2 h3 (Nat.le_refl _) (Nat.le_refl _)

def rX9_works : Room := { frames := 3, cells := 0, slots := 0, locals := 70 }
set_option maxHeartbeats 4000000 in
set_option maxRecDepth 100000 in
theorem k_X9_works (l : Launch) (D : va_G) (cI cZ : ClassId) (ad : Nat → Nat) (u : GS) (p0 : Int32) (p1 : Int32) (p2 : Int32) (p3 : Int32) (p4 : Int32) {r : Int32} {w' : GS} (h : g_X9_works u p0 p1 p2 p3 p4 = some (.inl r, w')) : MI l yX9_works (wm yX9_works cX9_works 6 (some .int)) rX9_works D [(cI, .int), (cZ, .boolean)] (wC cI cZ ad u) (wC cI cZ ad w') [.ref (ad 0), .int p0, .int p1, .int p2, .int p3, .int p4] r := by
  intro sz
  refine Met.ofW (cc := cX9_works) (maxL := 6) (ret := (some .int)) (by decide) rfl ?_
  intro p e s m args below meth c s₁ B hml hv
  obtain ⟨rfl, hsz, hP, hK, hD0, hZ⟩ := hv
  have hx := B.exec
  have hb := B.bytes
  have hr := B.returns
  have hts : ∀ w ∈ Wall, w.before _ s = true := fun w hw => atoms_spec (ws := wm yX9_works cX9_works 6 (some .int)) B.pre w (List.mem_cons_of_mem _ hw)
  have hown : s.vm.findClass RX9 = some m.cls := findClass_of_methodNamed B.named
  have hlocks := B.notSynchronized
  subst hsz
  have hD := hD0.self (sz := s.heap.size)
  generalize hAe : va_A (wC cI cZ ad u) s.heap.size = A at hD hZ ⊢
  have hA : ∀ q : Nat, s.heap.size ≤ q → A q := fun q h => by rw [← hAe]; exact Or.inr h
  have hS : va_S A s.heap s.heap [] := va_S.rf
  have hf7 := hts _ mw_304
  have hf65 := hts _ mw_312
  have hf234 := hts _ mw_233
  have hl := lv_entry ([.ref (ad 0), .int p0, .int p1, .int p2, .int p3, .int p4]) (n := 6) (Nat.le_of_ble_eq_true rfl)
  rw [lg_entry_eq]
  generalize (lg_sl ([.ref (ad 0), .int p0, .int p1, .int p2, .int p3, .int p4]) ++ List.replicate (6 - (lg_sl ([.ref (ad 0), .int p0, .int p1, .int p2, .int p3, .int p4])).length) Slot.unset).toArray = ls at hl ⊢
  replace hl : lv_has ls 6 [(0, .ref (ad 0)), (1, .int p0), (2, .int p1), (3, .int p2), (4, .int p3), (5, .int p4)] := hl
  refine w_gen (fun Q hQ => ?_)
  refine lv_iload_n hx hb dX9_works_0 rfl (lv_at hl 1 rfl) ?_
  refine lv_iconst (v := 1) hx hb dX9_works_1 (by decide) ?_
  refine lv_iconst (v := 3) hx hb dX9_works_2 (by decide) ?_
  obtain ⟨y1, hc2, h⟩ := gx_bind h
  refine cc_iS (As := [.int p0, .int (1 : Int32), .int (3 : Int32)]) (rest := []) ⟨hx, hb, hml, hown, hts⟩ (k_X9_isWithin l D cI cZ ad u p0 (1 : Int32) (3 : Int32) hc2) (va_cwS 3 hts (gwS mw_391 mw_273 mw_48 mw_274) rfl rfl rfl (by decide +kernel) ⟨Nat.le_of_ble_eq_true rfl, Nat.le_of_ble_eq_true rfl⟩) hK hP hD hS hA hZ rfl hl.1 rfl (Nat.le_of_ble_eq_true rfl) dX9_works_3 ⟨Nat.zero_le _, Nat.zero_le _⟩ (fun H locs hP hD hS => ?_)
  obtain ⟨y3, u4, hc5, h⟩ := gx_xr h
  refine cc_vS (As := [.int y1]) (rest := []) ⟨hx, hb, hml, hown, hts⟩ (k_X9_needIndex l D cI cZ ad u y1 hc5) (va_cwS 1 hts (gwS mw_598 mw_599 mw_48 mw_600) rfl rfl rfl (by decide +kernel) ⟨Nat.le_of_ble_eq_true rfl, Nat.le_of_ble_eq_true rfl⟩) hK hP hD hS hA hZ rfl hl.1 rfl (Nat.le_of_ble_eq_true rfl) dX9_works_6 ⟨Nat.zero_le _, Nat.zero_le _⟩ (fun H locs hP hD hS => ?_)
  refine lv_iload_n hx hb dX9_works_9 rfl (lv_at hl 2 rfl) ?_
  refine lv_iconst (v := 1) hx hb dX9_works_10 (by decide) ?_
  refine lv_bipush (v := 11) hx hb dX9_works_11 (by decide) ?_
  obtain ⟨y6, hc7, h⟩ := gx_bind h
  refine cc_iS (As := [.int p1, .int (1 : Int32), .int (11 : Int32)]) (rest := []) ⟨hx, hb, hml, hown, hts⟩ (k_X9_isWithin l D cI cZ ad u4 p1 (1 : Int32) (11 : Int32) hc7) (va_cwS 3 hts (gwS mw_391 mw_273 mw_48 mw_274) rfl rfl rfl (by decide +kernel) ⟨Nat.le_of_ble_eq_true rfl, Nat.le_of_ble_eq_true rfl⟩) hK hP hD hS hA hZ rfl hl.1 rfl (Nat.le_of_ble_eq_true rfl) dX9_works_13 ⟨Nat.zero_le _, Nat.zero_le _⟩ (fun H locs hP hD hS => ?_)
  obtain ⟨y8, u9, hc10, h⟩ := gx_xr h
  refine cc_vS (As := [.int y6]) (rest := []) ⟨hx, hb, hml, hown, hts⟩ (k_X9_needIndex l D cI cZ ad u4 y6 hc10) (va_cwS 1 hts (gwS mw_598 mw_599 mw_48 mw_600) rfl rfl rfl (by decide +kernel) ⟨Nat.le_of_ble_eq_true rfl, Nat.le_of_ble_eq_true rfl⟩) hK hP hD hS hA hZ rfl hl.1 rfl (Nat.le_of_ble_eq_true rfl) dX9_works_16 ⟨Nat.zero_le _, Nat.zero_le _⟩ (fun H locs hP hD hS => ?_)
  refine lv_iload_n hx hb dX9_works_19 rfl (lv_at hl 3 rfl) ?_
  refine lv_iconst (v := 1) hx hb dX9_works_20 (by decide) ?_
  refine lv_bipush (v := 11) hx hb dX9_works_21 (by decide) ?_
  obtain ⟨y11, hc12, h⟩ := gx_bind h
  refine cc_iS (As := [.int p2, .int (1 : Int32), .int (11 : Int32)]) (rest := []) ⟨hx, hb, hml, hown, hts⟩ (k_X9_isWithin l D cI cZ ad u9 p2 (1 : Int32) (11 : Int32) hc12) (va_cwS 3 hts (gwS mw_391 mw_273 mw_48 mw_274) rfl rfl rfl (by decide +kernel) ⟨Nat.le_of_ble_eq_true rfl, Nat.le_of_ble_eq_true rfl⟩) hK hP hD hS hA hZ rfl hl.1 rfl (Nat.le_of_ble_eq_true rfl) dX9_works_23 ⟨Nat.zero_le _, Nat.zero_le _⟩ (fun H locs hP hD hS => ?_)
  obtain ⟨y13, u14, hc15, h⟩ := gx_xr h
  refine cc_vS (As := [.int y11]) (rest := []) ⟨hx, hb, hml, hown, hts⟩ (k_X9_needIndex l D cI cZ ad u9 y11 hc15) (va_cwS 1 hts (gwS mw_598 mw_599 mw_48 mw_600) rfl rfl rfl (by decide +kernel) ⟨Nat.le_of_ble_eq_true rfl, Nat.le_of_ble_eq_true rfl⟩) hK hP hD hS hA hZ rfl hl.1 rfl (Nat.le_of_ble_eq_true rfl) dX9_works_26 ⟨Nat.zero_le _, Nat.zero_le _⟩ (fun H locs hP hD hS => ?_)
  refine lv_iload_n hx hb dX9_works_29 rfl (lv_at hl 2 rfl) ?_
  refine lv_iload_n hx hb dX9_works_30 rfl (lv_at hl 3 rfl) ?_
  obtain ⟨j39_16, ej39_16, h⟩ := gx_let h
  have hj39_16 : ∀ (z0_39 : Int32) (H : Heap) (locs : List Loc) (ls : Array Slot), j39_16 z0_39 = some (.inl r, w') → va_P D vwCl (wC cI cZ ad u14) H → va_D A (wC cI cZ ad u14) → va_S A s.heap H locs → lv_has ls 6 [(0, .ref (ad 0)), (1, .int p0), (2, .int p1), (3, .int p2), (4, .int p3), (5, .int p4)] → W p l e rX9_works s m ([.ref (ad 0), .int p0, .int p1, .int p2, .int p3, .int p4] : List Value).toArray below meth c H locs 0 0 Q (F0 m 39 ls [.int z0_39]) := by
    intro z0_39 H locs ls h hP hD hS hl
    subst ej39_16
    obtain ⟨y17, u18, hc19, h⟩ := gx_xr h
    refine cc_vS (As := [.int z0_39]) (rest := []) ⟨hx, hb, hml, hown, hts⟩ (k_X9_needArgument l D cI cZ ad u14 z0_39 hc19) (va_cwS 1 hts (gwS mw_392 mw_393 mw_48 mw_394) rfl rfl rfl (by decide +kernel) ⟨Nat.le_of_ble_eq_true rfl, Nat.le_of_ble_eq_true rfl⟩) hK hP hD hS hA hZ rfl hl.1 rfl (Nat.le_of_ble_eq_true rfl) dX9_works_39 ⟨Nat.zero_le _, Nat.zero_le _⟩ (fun H locs hP hD hS => ?_)
    refine lv_iload hx hb dX9_works_42 (lv_at hl 4 rfl) ?_
    refine lv_aload_n hx hb dX9_works_44 rfl (lv_at hl 0 rfl) ?_
    refine va_get (D := D) (ci := 9) (v := .int (c_minute u18)) (C := RX9) (T := TX9) (N := 10) hx hb hts iX9 hown hK hP 0 rfl rfl 0 (by decide) hf7 (fun _ h9 => h9) rfl dX9_works_45 ?_
    refine lv_sipush (v := 599) hx hb dX9_works_48 (by decide) ?_
    obtain ⟨y20, hc21, h⟩ := gx_bind h
    refine cc_iS (As := [.int p3, .int (c_minute u18), .int (599 : Int32)]) (rest := []) ⟨hx, hb, hml, hown, hts⟩ (k_X9_isWithin l D cI cZ ad u18 p3 (c_minute u18) (599 : Int32) hc21) (va_cwS 3 hts (gwS mw_391 mw_273 mw_48 mw_274) rfl rfl rfl (by decide +kernel) ⟨Nat.le_of_ble_eq_true rfl, Nat.le_of_ble_eq_true rfl⟩) hK hP hD hS hA hZ rfl hl.1 rfl (Nat.le_of_ble_eq_true rfl) dX9_works_51 ⟨Nat.zero_le _, Nat.zero_le _⟩ (fun H locs hP hD hS => ?_)
    obtain ⟨y22, u23, hc24, h⟩ := gx_xr h
    refine cc_vS (As := [.int y20]) (rest := []) ⟨hx, hb, hml, hown, hts⟩ (k_X9_needArgument l D cI cZ ad u18 y20 hc24) (va_cwS 1 hts (gwS mw_392 mw_393 mw_48 mw_394) rfl rfl rfl (by decide +kernel) ⟨Nat.le_of_ble_eq_true rfl, Nat.le_of_ble_eq_true rfl⟩) hK hP hD hS hA hZ rfl hl.1 rfl (Nat.le_of_ble_eq_true rfl) dX9_works_54 ⟨Nat.zero_le _, Nat.zero_le _⟩ (fun H locs hP hD hS => ?_)
    refine lv_iload hx hb dX9_works_57 (lv_at hl 5 rfl) ?_
    refine lv_iload hx hb dX9_works_59 (lv_at hl 4 rfl) ?_
    obtain ⟨j77_25, ej77_25, h⟩ := gx_let h
    have hj77_25 : ∀ (z0_77 : Int32) (H : Heap) (locs : List Loc) (ls : Array Slot), j77_25 z0_77 = some (.inl r, w') → va_P D vwCl (wC cI cZ ad u23) H → va_D A (wC cI cZ ad u23) → va_S A s.heap H locs → lv_has ls 6 [(0, .ref (ad 0)), (1, .int p0), (2, .int p1), (3, .int p2), (4, .int p3), (5, .int p4)] → W p l e rX9_works s m ([.ref (ad 0), .int p0, .int p1, .int p2, .int p3, .int p4] : List Value).toArray below meth c H locs 0 0 Q (F0 m 77 ls [.int z0_77]) := by
      intro z0_77 H locs ls h hP hD hS hl
      subst ej77_25
      obtain ⟨y26, u27, hc28, h⟩ := gx_xr h
      refine cc_vS (As := [.int z0_77]) (rest := []) ⟨hx, hb, hml, hown, hts⟩ (k_X9_needArgument l D cI cZ ad u23 z0_77 hc28) (va_cwS 1 hts (gwS mw_392 mw_393 mw_48 mw_394) rfl rfl rfl (by decide +kernel) ⟨Nat.le_of_ble_eq_true rfl, Nat.le_of_ble_eq_true rfl⟩) hK hP hD hS hA hZ rfl hl.1 rfl (Nat.le_of_ble_eq_true rfl) dX9_works_77 ⟨Nat.zero_le _, Nat.zero_le _⟩ (fun H locs hP hD hS => ?_)
      refine lv_aload_n hx hb dX9_works_80 rfl (lv_at hl 0 rfl) ?_
      refine va_get (D := D) (ci := 9) (v := .ref (ad 8)) (C := RX9) (T := TX9) (N := 10) hx hb hts iX9 hown hK hP 0 rfl rfl 8 (by decide) hf65 (fun _ h9 => h9) rfl dX9_works_81 ?_
      refine va_get (D := D) (ci := 0) (v := .int (cB_count u27)) (C := RX0) (T := TX0) (N := 6) hx hb hts iX0 hown hK hP 8 rfl rfl 5 (by decide) hf234 (fun _ h9 => h9) rfl dX9_works_84 ?_
      refine lv_bipush (v := 8) hx hb dX9_works_87 (by decide) ?_
      obtain ⟨j97_29, ej97_29, h⟩ := gx_let h
      have hj97_29 : ∀ (z0_97 : Int32) (H : Heap) (locs : List Loc) (ls : Array Slot), j97_29 z0_97 = some (.inl r, w') → va_P D vwCl (wC cI cZ ad u27) H → va_D A (wC cI cZ ad u27) → va_S A s.heap H locs → lv_has ls 6 [(0, .ref (ad 0)), (1, .int p0), (2, .int p1), (3, .int p2), (4, .int p3), (5, .int p4)] → W p l e rX9_works s m ([.ref (ad 0), .int p0, .int p1, .int p2, .int p3, .int p4] : List Value).toArray below meth c H locs 0 0 Q (F0 m 97 ls [.int z0_97]) := by
        intro z0_97 H locs ls h hP hD hS hl
        subst ej97_29
        obtain ⟨y30, u31, hc32, h⟩ := gx_xr h
        refine cc_vS (As := [.int z0_97]) (rest := []) ⟨hx, hb, hml, hown, hts⟩ (k_X9_needState l D cI cZ ad u27 z0_97 hc32) (va_cwS 1 hts (gwS mw_471 mw_472 mw_48 mw_473) rfl rfl rfl (by decide +kernel) ⟨Nat.le_of_ble_eq_true rfl, Nat.le_of_ble_eq_true rfl⟩) hK hP hD hS hA hZ rfl hl.1 rfl (Nat.le_of_ble_eq_true rfl) dX9_works_97 ⟨Nat.zero_le _, Nat.zero_le _⟩ (fun H locs hP hD hS => ?_)
        refine lv_aload_n hx hb dX9_works_100 rfl (lv_at hl 0 rfl) ?_
        refine va_get (D := D) (ci := 9) (v := .ref (ad 8)) (C := RX9) (T := TX9) (N := 10) hx hb hts iX9 hown hK hP 0 rfl rfl 8 (by decide) hf65 (fun _ h9 => h9) rfl dX9_works_101 ?_
        refine lv_iload_n hx hb dX9_works_104 rfl (lv_at hl 1 rfl) ?_
        refine lv_iload_n hx hb dX9_works_105 rfl (lv_at hl 2 rfl) ?_
        refine lv_iload_n hx hb dX9_works_106 rfl (lv_at hl 3 rfl) ?_
        refine lv_iload hx hb dX9_works_107 (lv_at hl 4 rfl) ?_
        refine lv_iload hx hb dX9_works_109 (lv_at hl 5 rfl) ?_
        obtain ⟨y33, hc34, h⟩ := gx_bind h
        refine cc_vV (As := [.int p0, .int p1, .int p2, .int p3, .int p4]) (rest := []) ⟨hx, hb, hml, hown, hts⟩ (k_X0_writeNext l D cI cZ ad u31 p0 p1 p2 p3 p4 hc34) (cwV 5 hts (gwV mw_784 mw_785 mw_786 mw_56 mw_787) rfl rfl rfl (by decide +kernel) ⟨Nat.le_of_ble_eq_true rfl, Nat.le_of_ble_eq_true rfl⟩) hK hP hD hS hA hZ (ci := 0) (q0 := 8) rfl rfl rfl hl.1 rfl (Nat.le_of_ble_eq_true rfl) dX9_works_111 ⟨Nat.zero_le _, Nat.zero_le _⟩ (fun H locs hP hD hS => ?_)
        refine lv_aload_n hx hb dX9_works_114 rfl (lv_at hl 0 rfl) ?_
        refine va_get (D := D) (ci := 9) (v := .ref (ad 8)) (C := RX9) (T := TX9) (N := 10) hx hb hts iX9 hown hK hP 0 rfl rfl 8 (by decide) hf65 (fun _ h9 => h9) rfl dX9_works_115 ?_
        obtain ⟨y35, hc36, h⟩ := gx_bind h
        refine cc_iV (As := []) (rest := []) ⟨hx, hb, hml, hown, hts⟩ (k_X0_nextTakesLastLane l D cI cZ ad y33 hc36) (cwV 0 hts (gwV mw_788 mw_789 mw_790 mw_56 mw_791) rfl rfl rfl (by decide +kernel) ⟨Nat.le_of_ble_eq_true rfl, Nat.le_of_ble_eq_true rfl⟩) hK hP hD hS hA hZ (ci := 0) (q0 := 8) rfl rfl rfl hl.1 rfl (Nat.le_of_ble_eq_true rfl) dX9_works_118 ⟨Nat.zero_le _, Nat.zero_le _⟩ (fun H locs hP hD hS => ?_)
        obtain ⟨j129_37, ej129_37, h⟩ := gx_let h
        have hj129_37 : ∀ (z0_129 : Int32) (H : Heap) (locs : List Loc) (ls : Array Slot), j129_37 z0_129 = some (.inl r, w') → va_P D vwCl (wC cI cZ ad y33) H → va_D A (wC cI cZ ad y33) → va_S A s.heap H locs → lv_has ls 6 [(0, .ref (ad 0))] → W p l e rX9_works s m ([.ref (ad 0), .int p0, .int p1, .int p2, .int p3, .int p4] : List Value).toArray below meth c H locs 0 0 Q (F0 m 129 ls [.int z0_129]) := by
          intro z0_129 H locs ls h hP hD hS hl
          subst ej129_37
          obtain ⟨y38, u39, hc40, h⟩ := gx_xr h
          refine cc_vS (As := [.int z0_129]) (rest := []) ⟨hx, hb, hml, hown, hts⟩ (k_X9_needState l D cI cZ ad y33 z0_129 hc40) (va_cwS 1 hts (gwS mw_471 mw_472 mw_48 mw_473) rfl rfl rfl (by decide +kernel) ⟨Nat.le_of_ble_eq_true rfl, Nat.le_of_ble_eq_true rfl⟩) hK hP hD hS hA hZ rfl hl.1 rfl (Nat.le_of_ble_eq_true rfl) dX9_works_129 ⟨Nat.zero_le _, Nat.zero_le _⟩ (fun H locs hP hD hS => ?_)
          refine lv_aload_n hx hb dX9_works_132 rfl (lv_at hl 0 rfl) ?_
          refine va_get (D := D) (ci := 9) (v := .ref (ad 8)) (C := RX9) (T := TX9) (N := 10) hx hb hts iX9 hown hK hP 0 rfl rfl 8 (by decide) hf65 (fun _ h9 => h9) rfl dX9_works_133 ?_
          refine lv_dup hx hb dX9_works_136 rfl ?_
          refine va_get (D := D) (ci := 0) (v := .int (cB_count u39)) (C := RX0) (T := TX0) (N := 6) hx hb hts iX0 hown hK hP 8 rfl rfl 5 (by decide) hf234 (fun _ h9 => h9) rfl dX9_works_137 ?_
          refine lv_iconst (v := 1) hx hb dX9_works_140 (by decide) ?_
          refine lv_iadd hx hb dX9_works_141 ?_
          refine va_put (D := D) (ci := 0) (v := .int ((cB_count u39) + (1 : Int32))) (ty := .int) (C := RX0) (T := TX0) (N := 6) hx hb hts iX0 tyX0 tyX0_ok nmX0 hown hK hP hD hS 8 rfl rfl 5 (by decide) hf234 (fun _ h9 => h9) rfl (by decide +kernel) rfl rfl (Nat.le_of_ble_eq_true rfl) dX9_works_142 (fun H locs hP hD hS => ?_)
          obtain ⟨u41, eu41, h⟩ := gx_let h
          replace hP : va_P D vwCl (wC cI cZ ad u41) H := by rw [← eu41]; exact hP
          replace hD : va_D A (wC cI cZ ad u41) := by rw [← eu41]; exact hD
          refine lv_aload_n hx hb dX9_works_145 rfl (lv_at hl 0 rfl) ?_
          refine va_get (D := D) (ci := 9) (v := .ref (ad 8)) (C := RX9) (T := TX9) (N := 10) hx hb hts iX9 hown hK hP 0 rfl rfl 8 (by decide) hf65 (fun _ h9 => h9) rfl dX9_works_146 ?_
          refine va_get (D := D) (ci := 0) (v := .int (cB_count u41)) (C := RX0) (T := TX0) (N := 6) hx hb hts iX0 hown hK hP 8 rfl rfl 5 (by decide) hf234 (fun _ h9 => h9) rfl dX9_works_149 ?_
          refine lv_iconst (v := 1) hx hb dX9_works_152 (by decide) ?_
          refine lv_isub hx hb dX9_works_153 ?_
          cases h
          exact cc_ret hx hb hr rfl hQ hK hP hD hS rfl dX9_works_154 hlocks
        refine lv_if_ne (tgt := 128) hx hb dX9_works_121 (by decide) (fun c42 => ?_) (fun c42 => ?_)
        · replace h := gx_f c42 h
          refine lv_iconst (v := 0) hx hb dX9_works_128 (by decide) ?_
          exact hj129_37 (0 : Int32) _ _ _ h hP hD hS (lv_sub hl [0] rfl)
        · replace h := gx_t c42 h
          refine lv_iconst (v := 1) hx hb dX9_works_124 (by decide) ?_
          refine lv_goto (tgt := 129) hx hb dX9_works_125 (by decide) ?_
          exact hj129_37 (1 : Int32) _ _ _ h hP hD hS (lv_sub hl [0] rfl)
      refine lv_icmp_ge (tgt := 96) hx hb dX9_works_89 (by decide) (fun c43 => ?_) (fun c43 => ?_)
      · replace h := gx_t c43 h
        refine lv_iconst (v := 0) hx hb dX9_works_96 (by decide) ?_
        exact hj97_29 (0 : Int32) _ _ _ h hP hD hS (lv_sub hl [0, 1, 2, 3, 4, 5] rfl)
      · replace h := gx_f c43 h
        refine lv_iconst (v := 1) hx hb dX9_works_92 (by decide) ?_
        refine lv_goto (tgt := 97) hx hb dX9_works_93 (by decide) ?_
        exact hj97_29 (1 : Int32) _ _ _ h hP hD hS (lv_sub hl [0, 1, 2, 3, 4, 5] rfl)
    obtain ⟨j76_44, ej76_44, h⟩ := gx_let h
    have hj76_44 : ∀ (H : Heap) (locs : List Loc) (ls : Array Slot), j76_44 () = some (.inl r, w') → va_P D vwCl (wC cI cZ ad u23) H → va_D A (wC cI cZ ad u23) → va_S A s.heap H locs → lv_has ls 6 [(0, .ref (ad 0)), (1, .int p0), (2, .int p1), (3, .int p2), (4, .int p3), (5, .int p4)] → W p l e rX9_works s m ([.ref (ad 0), .int p0, .int p1, .int p2, .int p3, .int p4] : List Value).toArray below meth c H locs 0 0 Q (F0 m 76 ls []) := by
      intro  H locs ls h hP hD hS hl
      subst ej76_44
      refine lv_iconst (v := 0) hx hb dX9_works_76 (by decide) ?_
      exact hj77_25 (0 : Int32) _ _ _ h hP hD hS (lv_sub hl [0, 1, 2, 3, 4, 5] rfl)
    refine lv_icmp_le (tgt := 76) hx hb dX9_works_61 (by decide) (fun c45 => ?_) (fun c45 => ?_)
    · replace h := gx_t c45 h
      exact hj76_44 _ _ _ h hP hD hS (lv_sub hl [0, 1, 2, 3, 4, 5] rfl)
    · replace h := gx_f c45 h
      refine lv_iload hx hb dX9_works_64 (lv_at hl 5 rfl) ?_
      refine lv_sipush (v := 600) hx hb dX9_works_66 (by decide) ?_
      refine lv_icmp_gt (tgt := 76) hx hb dX9_works_69 (by decide) (fun c46 => ?_) (fun c46 => ?_)
      · replace h := gx_t c46 h
        exact hj76_44 _ _ _ h hP hD hS (lv_sub hl [0, 1, 2, 3, 4, 5] rfl)
      · replace h := gx_f c46 h
        refine lv_iconst (v := 1) hx hb dX9_works_72 (by decide) ?_
        refine lv_goto (tgt := 77) hx hb dX9_works_73 (by decide) ?_
        exact hj77_25 (1 : Int32) _ _ _ h hP hD hS (lv_sub hl [0, 1, 2, 3, 4, 5] rfl)
  refine lv_icmp_gt (tgt := 38) hx hb dX9_works_31 (by decide) (fun c47 => ?_) (fun c47 => ?_)
  · replace h := gx_t c47 h
    refine lv_iconst (v := 0) hx hb dX9_works_38 (by decide) ?_
    exact hj39_16 (0 : Int32) _ _ _ h hP hD hS (lv_sub hl [0, 1, 2, 3, 4, 5] rfl)
  · replace h := gx_f c47 h
    refine lv_iconst (v := 1) hx hb dX9_works_34 (by decide) ?_
    refine lv_goto (tgt := 39) hx hb dX9_works_35 (by decide) ?_
    exact hj39_16 (1 : Int32) _ _ _ h hP hD hS (lv_sub hl [0, 1, 2, 3, 4, 5] rfl)

def rx_X9_works : Room := { frames := 7, cells := 1, slots := 6, locals := 110 }
set_option maxHeartbeats 4000000 in
set_option maxRecDepth 100000 in
theorem kx_X9_works (l : Launch) (hl0 : l.stackTraces = false) (D : va_G) (cI cZ : ClassId) (ad : Nat → Nat) (u : GS) (p0 : Int32) (p1 : Int32) (p2 : Int32) (p3 : Int32) (p4 : Int32) {E : String} {w' : GS} (h : g_X9_works u p0 p1 p2 p3 p4 = some (.inr E, w')) : XI l yX9_works (wm yX9_works cX9_works 6 (some .int)) rx_X9_works D [(cI, .int), (cZ, .boolean)] (wC cI cZ ad u) (wC cI cZ ad w') [.ref (ad 0), .int p0, .int p1, .int p2, .int p3, .int p4] E := by
  intro sz
  refine vx_ofW (cc := cX9_works) (maxL := 6) (ret := (some .int)) (by decide) rfl ?_
  intro p e s m args below meth c s₁ B hml hout hv
  obtain ⟨rfl, hsz, hP, hK, hD0, hZ⟩ := hv
  have hx := B.exec
  have hb := B.bytes
  have hts : ∀ w ∈ Wall, w.before _ s = true := fun w hw => atoms_spec (ws := wm yX9_works cX9_works 6 (some .int)) B.pre w (List.mem_cons_of_mem _ hw)
  have hown : s.vm.findClass RX9 = some m.cls := findClass_of_methodNamed B.named
  have hlocks := B.notSynchronized
  subst hsz
  have hD := hD0.self (sz := s.heap.size)
  generalize hAe : va_A (wC cI cZ ad u) s.heap.size = A at hD hZ
  have hA : ∀ q : Nat, s.heap.size ≤ q → A q := fun q h => by rw [← hAe]; exact Or.inr h
  have hS : va_S A s.heap s.heap [] := va_S.rf
  have hf7 := hts _ mw_304
  have hf65 := hts _ mw_312
  have hf234 := hts _ mw_233
  have hl := lv_entry ([.ref (ad 0), .int p0, .int p1, .int p2, .int p3, .int p4]) (n := 6) (Nat.le_of_ble_eq_true rfl)
  rw [lg_entry_eq]
  generalize (lg_sl ([.ref (ad 0), .int p0, .int p1, .int p2, .int p3, .int p4]) ++ List.replicate (6 - (lg_sl ([.ref (ad 0), .int p0, .int p1, .int p2, .int p3, .int p4])).length) Slot.unset).toArray = ls at hl ⊢
  replace hl : lv_has ls 6 [(0, .ref (ad 0)), (1, .int p0), (2, .int p1), (3, .int p2), (4, .int p3), (5, .int p4)] := hl
  refine w_gen (fun Q hQ => ?_)
  refine lv_iload_n hx hb dX9_works_0 rfl (lv_at hl 1 rfl) ?_
  refine lv_iconst (v := 1) hx hb dX9_works_1 (by decide) ?_
  refine lv_iconst (v := 3) hx hb dX9_works_2 (by decide) ?_
  obtain ⟨y1, hc2, h⟩ := gx_bind h
  refine cc_iS (As := [.int p0, .int (1 : Int32), .int (3 : Int32)]) (rest := []) ⟨hx, hb, hml, hown, hts⟩ (k_X9_isWithin l D cI cZ ad u p0 (1 : Int32) (3 : Int32) hc2) (va_cwS 3 hts (gwS mw_391 mw_273 mw_48 mw_274) rfl rfl rfl (by decide +kernel) ⟨Nat.le_of_ble_eq_true rfl, Nat.le_of_ble_eq_true rfl⟩) hK hP hD hS hA hZ rfl hl.1 rfl (Nat.le_of_ble_eq_true rfl) dX9_works_3 ⟨Nat.zero_le _, Nat.zero_le _⟩ (fun H locs hP hD hS => ?_)
  rcases gx_xx h with ⟨y3, u4, hc5, h⟩ | ⟨u4, hc5, ew⟩
  · refine cc_vS (As := [.int y1]) (rest := []) ⟨hx, hb, hml, hown, hts⟩ (k_X9_needIndex l D cI cZ ad u y1 hc5) (va_cwS 1 hts (gwS mw_598 mw_599 mw_48 mw_600) rfl rfl rfl (by decide +kernel) ⟨Nat.le_of_ble_eq_true rfl, Nat.le_of_ble_eq_true rfl⟩) hK hP hD hS hA hZ rfl hl.1 rfl (Nat.le_of_ble_eq_true rfl) dX9_works_6 ⟨Nat.zero_le _, Nat.zero_le _⟩ (fun H locs hP hD hS => ?_)
    refine lv_iload_n hx hb dX9_works_9 rfl (lv_at hl 2 rfl) ?_
    refine lv_iconst (v := 1) hx hb dX9_works_10 (by decide) ?_
    refine lv_bipush (v := 11) hx hb dX9_works_11 (by decide) ?_
    obtain ⟨y6, hc7, h⟩ := gx_bind h
    refine cc_iS (As := [.int p1, .int (1 : Int32), .int (11 : Int32)]) (rest := []) ⟨hx, hb, hml, hown, hts⟩ (k_X9_isWithin l D cI cZ ad u4 p1 (1 : Int32) (11 : Int32) hc7) (va_cwS 3 hts (gwS mw_391 mw_273 mw_48 mw_274) rfl rfl rfl (by decide +kernel) ⟨Nat.le_of_ble_eq_true rfl, Nat.le_of_ble_eq_true rfl⟩) hK hP hD hS hA hZ rfl hl.1 rfl (Nat.le_of_ble_eq_true rfl) dX9_works_13 ⟨Nat.zero_le _, Nat.zero_le _⟩ (fun H locs hP hD hS => ?_)
    rcases gx_xx h with ⟨y8, u9, hc10, h⟩ | ⟨u9, hc10, ew⟩
    · refine cc_vS (As := [.int y6]) (rest := []) ⟨hx, hb, hml, hown, hts⟩ (k_X9_needIndex l D cI cZ ad u4 y6 hc10) (va_cwS 1 hts (gwS mw_598 mw_599 mw_48 mw_600) rfl rfl rfl (by decide +kernel) ⟨Nat.le_of_ble_eq_true rfl, Nat.le_of_ble_eq_true rfl⟩) hK hP hD hS hA hZ rfl hl.1 rfl (Nat.le_of_ble_eq_true rfl) dX9_works_16 ⟨Nat.zero_le _, Nat.zero_le _⟩ (fun H locs hP hD hS => ?_)
      refine lv_iload_n hx hb dX9_works_19 rfl (lv_at hl 3 rfl) ?_
      refine lv_iconst (v := 1) hx hb dX9_works_20 (by decide) ?_
      refine lv_bipush (v := 11) hx hb dX9_works_21 (by decide) ?_
      obtain ⟨y11, hc12, h⟩ := gx_bind h
      refine cc_iS (As := [.int p2, .int (1 : Int32), .int (11 : Int32)]) (rest := []) ⟨hx, hb, hml, hown, hts⟩ (k_X9_isWithin l D cI cZ ad u9 p2 (1 : Int32) (11 : Int32) hc12) (va_cwS 3 hts (gwS mw_391 mw_273 mw_48 mw_274) rfl rfl rfl (by decide +kernel) ⟨Nat.le_of_ble_eq_true rfl, Nat.le_of_ble_eq_true rfl⟩) hK hP hD hS hA hZ rfl hl.1 rfl (Nat.le_of_ble_eq_true rfl) dX9_works_23 ⟨Nat.zero_le _, Nat.zero_le _⟩ (fun H locs hP hD hS => ?_)
      rcases gx_xx h with ⟨y13, u14, hc15, h⟩ | ⟨u14, hc15, ew⟩
      · refine cc_vS (As := [.int y11]) (rest := []) ⟨hx, hb, hml, hown, hts⟩ (k_X9_needIndex l D cI cZ ad u9 y11 hc15) (va_cwS 1 hts (gwS mw_598 mw_599 mw_48 mw_600) rfl rfl rfl (by decide +kernel) ⟨Nat.le_of_ble_eq_true rfl, Nat.le_of_ble_eq_true rfl⟩) hK hP hD hS hA hZ rfl hl.1 rfl (Nat.le_of_ble_eq_true rfl) dX9_works_26 ⟨Nat.zero_le _, Nat.zero_le _⟩ (fun H locs hP hD hS => ?_)
        refine lv_iload_n hx hb dX9_works_29 rfl (lv_at hl 2 rfl) ?_
        refine lv_iload_n hx hb dX9_works_30 rfl (lv_at hl 3 rfl) ?_
        obtain ⟨j39_16, ej39_16, h⟩ := gx_let h
        have hj39_16 : ∀ (z0_39 : Int32) (H : Heap) (locs : List Loc) (ls : Array Slot), j39_16 z0_39 = some (.inr E, w') → va_P D vwCl (wC cI cZ ad u14) H → va_D A (wC cI cZ ad u14) → va_S A s.heap H locs → lv_has ls 6 [(0, .ref (ad 0)), (1, .int p0), (2, .int p1), (3, .int p2), (4, .int p3), (5, .int p4)] → W p l e rx_X9_works s m ([.ref (ad 0), .int p0, .int p1, .int p2, .int p3, .int p4] : List Value).toArray below meth c H locs 0 0 Q (F0 m 39 ls [.int z0_39]) := by
          intro z0_39 H locs ls h hP hD hS hl
          subst ej39_16
          rcases gx_xx h with ⟨y17, u18, hc19, h⟩ | ⟨u18, hc19, ew⟩
          · refine cc_vS (As := [.int z0_39]) (rest := []) ⟨hx, hb, hml, hown, hts⟩ (k_X9_needArgument l D cI cZ ad u14 z0_39 hc19) (va_cwS 1 hts (gwS mw_392 mw_393 mw_48 mw_394) rfl rfl rfl (by decide +kernel) ⟨Nat.le_of_ble_eq_true rfl, Nat.le_of_ble_eq_true rfl⟩) hK hP hD hS hA hZ rfl hl.1 rfl (Nat.le_of_ble_eq_true rfl) dX9_works_39 ⟨Nat.zero_le _, Nat.zero_le _⟩ (fun H locs hP hD hS => ?_)
            refine lv_iload hx hb dX9_works_42 (lv_at hl 4 rfl) ?_
            refine lv_aload_n hx hb dX9_works_44 rfl (lv_at hl 0 rfl) ?_
            refine va_get (D := D) (ci := 9) (v := .int (c_minute u18)) (C := RX9) (T := TX9) (N := 10) hx hb hts iX9 hown hK hP 0 rfl rfl 0 (by decide) hf7 (fun _ h9 => h9) rfl dX9_works_45 ?_
            refine lv_sipush (v := 599) hx hb dX9_works_48 (by decide) ?_
            obtain ⟨y20, hc21, h⟩ := gx_bind h
            refine cc_iS (As := [.int p3, .int (c_minute u18), .int (599 : Int32)]) (rest := []) ⟨hx, hb, hml, hown, hts⟩ (k_X9_isWithin l D cI cZ ad u18 p3 (c_minute u18) (599 : Int32) hc21) (va_cwS 3 hts (gwS mw_391 mw_273 mw_48 mw_274) rfl rfl rfl (by decide +kernel) ⟨Nat.le_of_ble_eq_true rfl, Nat.le_of_ble_eq_true rfl⟩) hK hP hD hS hA hZ rfl hl.1 rfl (Nat.le_of_ble_eq_true rfl) dX9_works_51 ⟨Nat.zero_le _, Nat.zero_le _⟩ (fun H locs hP hD hS => ?_)
            rcases gx_xx h with ⟨y22, u23, hc24, h⟩ | ⟨u23, hc24, ew⟩
            · refine cc_vS (As := [.int y20]) (rest := []) ⟨hx, hb, hml, hown, hts⟩ (k_X9_needArgument l D cI cZ ad u18 y20 hc24) (va_cwS 1 hts (gwS mw_392 mw_393 mw_48 mw_394) rfl rfl rfl (by decide +kernel) ⟨Nat.le_of_ble_eq_true rfl, Nat.le_of_ble_eq_true rfl⟩) hK hP hD hS hA hZ rfl hl.1 rfl (Nat.le_of_ble_eq_true rfl) dX9_works_54 ⟨Nat.zero_le _, Nat.zero_le _⟩ (fun H locs hP hD hS => ?_)
              refine lv_iload hx hb dX9_works_57 (lv_at hl 5 rfl) ?_
              refine lv_iload hx hb dX9_works_59 (lv_at hl 4 rfl) ?_
              obtain ⟨j77_25, ej77_25, h⟩ := gx_let h
              have hj77_25 : ∀ (z0_77 : Int32) (H : Heap) (locs : List Loc) (ls : Array Slot), j77_25 z0_77 = some (.inr E, w') → va_P D vwCl (wC cI cZ ad u23) H → va_D A (wC cI cZ ad u23) → va_S A s.heap H locs → lv_has ls 6 [(0, .ref (ad 0)), (1, .int p0), (2, .int p1), (3, .int p2), (4, .int p3), (5, .int p4)] → W p l e rx_X9_works s m ([.ref (ad 0), .int p0, .int p1, .int p2, .int p3, .int p4] : List Value).toArray below meth c H locs 0 0 Q (F0 m 77 ls [.int z0_77]) := by
                intro z0_77 H locs ls h hP hD hS hl
                subst ej77_25
                rcases gx_xx h with ⟨y26, u27, hc28, h⟩ | ⟨u27, hc28, ew⟩
                · refine cc_vS (As := [.int z0_77]) (rest := []) ⟨hx, hb, hml, hown, hts⟩ (k_X9_needArgument l D cI cZ ad u23 z0_77 hc28) (va_cwS 1 hts (gwS mw_392 mw_393 mw_48 mw_394) rfl rfl rfl (by decide +kernel) ⟨Nat.le_of_ble_eq_true rfl, Nat.le_of_ble_eq_true rfl⟩) hK hP hD hS hA hZ rfl hl.1 rfl (Nat.le_of_ble_eq_true rfl) dX9_works_77 ⟨Nat.zero_le _, Nat.zero_le _⟩ (fun H locs hP hD hS => ?_)
                  refine lv_aload_n hx hb dX9_works_80 rfl (lv_at hl 0 rfl) ?_
                  refine va_get (D := D) (ci := 9) (v := .ref (ad 8)) (C := RX9) (T := TX9) (N := 10) hx hb hts iX9 hown hK hP 0 rfl rfl 8 (by decide) hf65 (fun _ h9 => h9) rfl dX9_works_81 ?_
                  refine va_get (D := D) (ci := 0) (v := .int (cB_count u27)) (C := RX0) (T := TX0) (N := 6) hx hb hts iX0 hown hK hP 8 rfl rfl 5 (by decide) hf234 (fun _ h9 => h9) rfl dX9_works_84 ?_
                  refine lv_bipush (v := 8) hx hb dX9_works_87 (by decide) ?_
                  obtain ⟨j97_29, ej97_29, h⟩ := gx_let h
                  have hj97_29 : ∀ (z0_97 : Int32) (H : Heap) (locs : List Loc) (ls : Array Slot), j97_29 z0_97 = some (.inr E, w') → va_P D vwCl (wC cI cZ ad u27) H → va_D A (wC cI cZ ad u27) → va_S A s.heap H locs → lv_has ls 6 [(0, .ref (ad 0)), (1, .int p0), (2, .int p1), (3, .int p2), (4, .int p3), (5, .int p4)] → W p l e rx_X9_works s m ([.ref (ad 0), .int p0, .int p1, .int p2, .int p3, .int p4] : List Value).toArray below meth c H locs 0 0 Q (F0 m 97 ls [.int z0_97]) := by
                    intro z0_97 H locs ls h hP hD hS hl
                    subst ej97_29
                    rcases gx_xx h with ⟨y30, u31, hc32, h⟩ | ⟨u31, hc32, ew⟩
                    · refine cc_vS (As := [.int z0_97]) (rest := []) ⟨hx, hb, hml, hown, hts⟩ (k_X9_needState l D cI cZ ad u27 z0_97 hc32) (va_cwS 1 hts (gwS mw_471 mw_472 mw_48 mw_473) rfl rfl rfl (by decide +kernel) ⟨Nat.le_of_ble_eq_true rfl, Nat.le_of_ble_eq_true rfl⟩) hK hP hD hS hA hZ rfl hl.1 rfl (Nat.le_of_ble_eq_true rfl) dX9_works_97 ⟨Nat.zero_le _, Nat.zero_le _⟩ (fun H locs hP hD hS => ?_)
                      refine lv_aload_n hx hb dX9_works_100 rfl (lv_at hl 0 rfl) ?_
                      refine va_get (D := D) (ci := 9) (v := .ref (ad 8)) (C := RX9) (T := TX9) (N := 10) hx hb hts iX9 hown hK hP 0 rfl rfl 8 (by decide) hf65 (fun _ h9 => h9) rfl dX9_works_101 ?_
                      refine lv_iload_n hx hb dX9_works_104 rfl (lv_at hl 1 rfl) ?_
                      refine lv_iload_n hx hb dX9_works_105 rfl (lv_at hl 2 rfl) ?_
                      refine lv_iload_n hx hb dX9_works_106 rfl (lv_at hl 3 rfl) ?_
                      refine lv_iload hx hb dX9_works_107 (lv_at hl 4 rfl) ?_
                      refine lv_iload hx hb dX9_works_109 (lv_at hl 5 rfl) ?_
                      obtain ⟨y33, hc34, h⟩ := gx_bind h
                      refine cc_vV (As := [.int p0, .int p1, .int p2, .int p3, .int p4]) (rest := []) ⟨hx, hb, hml, hown, hts⟩ (k_X0_writeNext l D cI cZ ad u31 p0 p1 p2 p3 p4 hc34) (cwV 5 hts (gwV mw_784 mw_785 mw_786 mw_56 mw_787) rfl rfl rfl (by decide +kernel) ⟨Nat.le_of_ble_eq_true rfl, Nat.le_of_ble_eq_true rfl⟩) hK hP hD hS hA hZ (ci := 0) (q0 := 8) rfl rfl rfl hl.1 rfl (Nat.le_of_ble_eq_true rfl) dX9_works_111 ⟨Nat.zero_le _, Nat.zero_le _⟩ (fun H locs hP hD hS => ?_)
                      refine lv_aload_n hx hb dX9_works_114 rfl (lv_at hl 0 rfl) ?_
                      refine va_get (D := D) (ci := 9) (v := .ref (ad 8)) (C := RX9) (T := TX9) (N := 10) hx hb hts iX9 hown hK hP 0 rfl rfl 8 (by decide) hf65 (fun _ h9 => h9) rfl dX9_works_115 ?_
                      obtain ⟨y35, hc36, h⟩ := gx_bind h
                      refine cc_iV (As := []) (rest := []) ⟨hx, hb, hml, hown, hts⟩ (k_X0_nextTakesLastLane l D cI cZ ad y33 hc36) (cwV 0 hts (gwV mw_788 mw_789 mw_790 mw_56 mw_791) rfl rfl rfl (by decide +kernel) ⟨Nat.le_of_ble_eq_true rfl, Nat.le_of_ble_eq_true rfl⟩) hK hP hD hS hA hZ (ci := 0) (q0 := 8) rfl rfl rfl hl.1 rfl (Nat.le_of_ble_eq_true rfl) dX9_works_118 ⟨Nat.zero_le _, Nat.zero_le _⟩ (fun H locs hP hD hS => ?_)
                      obtain ⟨j129_37, ej129_37, h⟩ := gx_let h
                      have hj129_37 : ∀ (z0_129 : Int32) (H : Heap) (locs : List Loc) (ls : Array Slot), j129_37 z0_129 = some (.inr E, w') → va_P D vwCl (wC cI cZ ad y33) H → va_D A (wC cI cZ ad y33) → va_S A s.heap H locs → lv_has ls 6 [(0, .ref (ad 0))] → W p l e rx_X9_works s m ([.ref (ad 0), .int p0, .int p1, .int p2, .int p3, .int p4] : List Value).toArray below meth c H locs 0 0 Q (F0 m 129 ls [.int z0_129]) := by
                        intro z0_129 H locs ls h hP hD hS hl
                        subst ej129_37
                        rcases gx_xx h with ⟨y38, u39, hc40, h⟩ | ⟨u39, hc40, ew⟩
                        · refine cc_vS (As := [.int z0_129]) (rest := []) ⟨hx, hb, hml, hown, hts⟩ (k_X9_needState l D cI cZ ad y33 z0_129 hc40) (va_cwS 1 hts (gwS mw_471 mw_472 mw_48 mw_473) rfl rfl rfl (by decide +kernel) ⟨Nat.le_of_ble_eq_true rfl, Nat.le_of_ble_eq_true rfl⟩) hK hP hD hS hA hZ rfl hl.1 rfl (Nat.le_of_ble_eq_true rfl) dX9_works_129 ⟨Nat.zero_le _, Nat.zero_le _⟩ (fun H locs hP hD hS => ?_)
                          refine lv_aload_n hx hb dX9_works_132 rfl (lv_at hl 0 rfl) ?_
                          refine va_get (D := D) (ci := 9) (v := .ref (ad 8)) (C := RX9) (T := TX9) (N := 10) hx hb hts iX9 hown hK hP 0 rfl rfl 8 (by decide) hf65 (fun _ h9 => h9) rfl dX9_works_133 ?_
                          refine lv_dup hx hb dX9_works_136 rfl ?_
                          refine va_get (D := D) (ci := 0) (v := .int (cB_count u39)) (C := RX0) (T := TX0) (N := 6) hx hb hts iX0 hown hK hP 8 rfl rfl 5 (by decide) hf234 (fun _ h9 => h9) rfl dX9_works_137 ?_
                          refine lv_iconst (v := 1) hx hb dX9_works_140 (by decide) ?_
                          refine lv_iadd hx hb dX9_works_141 ?_
                          refine va_put (D := D) (ci := 0) (v := .int ((cB_count u39) + (1 : Int32))) (ty := .int) (C := RX0) (T := TX0) (N := 6) hx hb hts iX0 tyX0 tyX0_ok nmX0 hown hK hP hD hS 8 rfl rfl 5 (by decide) hf234 (fun _ h9 => h9) rfl (by decide +kernel) rfl rfl (Nat.le_of_ble_eq_true rfl) dX9_works_142 (fun H locs hP hD hS => ?_)
                          obtain ⟨u41, eu41, h⟩ := gx_let h
                          replace hP : va_P D vwCl (wC cI cZ ad u41) H := by rw [← eu41]; exact hP
                          replace hD : va_D A (wC cI cZ ad u41) := by rw [← eu41]; exact hD
                          refine lv_aload_n hx hb dX9_works_145 rfl (lv_at hl 0 rfl) ?_
                          refine va_get (D := D) (ci := 9) (v := .ref (ad 8)) (C := RX9) (T := TX9) (N := 10) hx hb hts iX9 hown hK hP 0 rfl rfl 8 (by decide) hf65 (fun _ h9 => h9) rfl dX9_works_146 ?_
                          refine va_get (D := D) (ci := 0) (v := .int (cB_count u41)) (C := RX0) (T := TX0) (N := 6) hx hb hts iX0 hown hK hP 8 rfl rfl 5 (by decide) hf234 (fun _ h9 => h9) rfl dX9_works_149 ?_
                          refine lv_iconst (v := 1) hx hb dX9_works_152 (by decide) ?_
                          refine lv_isub hx hb dX9_works_153 ?_
                          cases h
                        · replace ew : u39 = w' := ew
                          subst ew
                          refine cX_vS (As := [.int z0_129]) (rest := []) ⟨hx, hb, hml, hown, hts⟩ (kx_X9_needState l hl0 D cI cZ ad y33 z0_129 hc40) (va_cwS 1 hts (gwS mw_471 mw_472 mw_48 mw_473) rfl rfl rfl (by decide +kernel) ⟨Nat.le_of_ble_eq_true rfl, Nat.le_of_ble_eq_true rfl⟩) hK hP hD hS hA hZ rfl hl.1 rfl (Nat.le_of_ble_eq_true rfl) dX9_works_129 ⟨Nat.le_of_ble_eq_true rfl, Nat.le_of_ble_eq_true rfl⟩ (fun ce q9 H locs hP hD hS h1 h2 h3 => ?_)
                          exact cX_back hAe hQ hout hlocks hK rfl hP hD hS h1 h2 h3 (Nat.le_refl _) (Nat.le_refl _)
                      refine lv_if_ne (tgt := 128) hx hb dX9_works_121 (by decide) (fun c42 => ?_) (fun c42 => ?_)
                      · replace h := gx_f c42 h
                        refine lv_iconst (v := 0) hx hb dX9_works_128 (by decide) ?_
                        exact hj129_37 (0 : Int32) _ _ _ h hP hD hS (lv_sub hl [0] rfl)
                      · replace h := gx_t c42 h
                        refine lv_iconst (v := 1) hx hb dX9_works_124 (by decide) ?_
                        refine lv_goto (tgt := 129) hx hb dX9_works_125 (by decide) ?_
                        exact hj129_37 (1 : Int32) _ _ _ h hP hD hS (lv_sub hl [0] rfl)
                    · replace ew : u31 = w' := ew
                      subst ew
                      refine cX_vS (As := [.int z0_97]) (rest := []) ⟨hx, hb, hml, hown, hts⟩ (kx_X9_needState l hl0 D cI cZ ad u27 z0_97 hc32) (va_cwS 1 hts (gwS mw_471 mw_472 mw_48 mw_473) rfl rfl rfl (by decide +kernel) ⟨Nat.le_of_ble_eq_true rfl, Nat.le_of_ble_eq_true rfl⟩) hK hP hD hS hA hZ rfl hl.1 rfl (Nat.le_of_ble_eq_true rfl) dX9_works_97 ⟨Nat.le_of_ble_eq_true rfl, Nat.le_of_ble_eq_true rfl⟩ (fun ce q9 H locs hP hD hS h1 h2 h3 => ?_)
                      exact cX_back hAe hQ hout hlocks hK rfl hP hD hS h1 h2 h3 (Nat.le_refl _) (Nat.le_refl _)
                  refine lv_icmp_ge (tgt := 96) hx hb dX9_works_89 (by decide) (fun c43 => ?_) (fun c43 => ?_)
                  · replace h := gx_t c43 h
                    refine lv_iconst (v := 0) hx hb dX9_works_96 (by decide) ?_
                    exact hj97_29 (0 : Int32) _ _ _ h hP hD hS (lv_sub hl [0, 1, 2, 3, 4, 5] rfl)
                  · replace h := gx_f c43 h
                    refine lv_iconst (v := 1) hx hb dX9_works_92 (by decide) ?_
                    refine lv_goto (tgt := 97) hx hb dX9_works_93 (by decide) ?_
                    exact hj97_29 (1 : Int32) _ _ _ h hP hD hS (lv_sub hl [0, 1, 2, 3, 4, 5] rfl)
                · replace ew : u27 = w' := ew
                  subst ew
                  refine cX_vS (As := [.int z0_77]) (rest := []) ⟨hx, hb, hml, hown, hts⟩ (kx_X9_needArgument l hl0 D cI cZ ad u23 z0_77 hc28) (va_cwS 1 hts (gwS mw_392 mw_393 mw_48 mw_394) rfl rfl rfl (by decide +kernel) ⟨Nat.le_of_ble_eq_true rfl, Nat.le_of_ble_eq_true rfl⟩) hK hP hD hS hA hZ rfl hl.1 rfl (Nat.le_of_ble_eq_true rfl) dX9_works_77 ⟨Nat.le_of_ble_eq_true rfl, Nat.le_of_ble_eq_true rfl⟩ (fun ce q9 H locs hP hD hS h1 h2 h3 => ?_)
                  exact cX_back hAe hQ hout hlocks hK rfl hP hD hS h1 h2 h3 (Nat.le_refl _) (Nat.le_refl _)
              obtain ⟨j76_44, ej76_44, h⟩ := gx_let h
              have hj76_44 : ∀ (H : Heap) (locs : List Loc) (ls : Array Slot), j76_44 () = some (.inr E, w') → va_P D vwCl (wC cI cZ ad u23) H → va_D A (wC cI cZ ad u23) → va_S A s.heap H locs → lv_has ls 6 [(0, .ref (ad 0)), (1, .int p0), (2, .int p1), (3, .int p2), (4, .int p3), (5, .int p4)] → W p l e rx_X9_works s m ([.ref (ad 0), .int p0, .int p1, .int p2, .int p3, .int p4] : List Value).toArray below meth c H locs 0 0 Q (F0 m 76 ls []) := by
                intro  H locs ls h hP hD hS hl
                subst ej76_44
                refine lv_iconst (v := 0) hx hb dX9_works_76 (by decide) ?_
                exact hj77_25 (0 : Int32) _ _ _ h hP hD hS (lv_sub hl [0, 1, 2, 3, 4, 5] rfl)
              refine lv_icmp_le (tgt := 76) hx hb dX9_works_61 (by decide) (fun c45 => ?_) (fun c45 => ?_)
              · replace h := gx_t c45 h
                exact hj76_44 _ _ _ h hP hD hS (lv_sub hl [0, 1, 2, 3, 4, 5] rfl)
              · replace h := gx_f c45 h
                refine lv_iload hx hb dX9_works_64 (lv_at hl 5 rfl) ?_
                refine lv_sipush (v := 600) hx hb dX9_works_66 (by decide) ?_
                refine lv_icmp_gt (tgt := 76) hx hb dX9_works_69 (by decide) (fun c46 => ?_) (fun c46 => ?_)
                · replace h := gx_t c46 h
                  exact hj76_44 _ _ _ h hP hD hS (lv_sub hl [0, 1, 2, 3, 4, 5] rfl)
                · replace h := gx_f c46 h
                  refine lv_iconst (v := 1) hx hb dX9_works_72 (by decide) ?_
                  refine lv_goto (tgt := 77) hx hb dX9_works_73 (by decide) ?_
                  exact hj77_25 (1 : Int32) _ _ _ h hP hD hS (lv_sub hl [0, 1, 2, 3, 4, 5] rfl)
            · replace ew : u23 = w' := ew
              subst ew
              refine cX_vS (As := [.int y20]) (rest := []) ⟨hx, hb, hml, hown, hts⟩ (kx_X9_needArgument l hl0 D cI cZ ad u18 y20 hc24) (va_cwS 1 hts (gwS mw_392 mw_393 mw_48 mw_394) rfl rfl rfl (by decide +kernel) ⟨Nat.le_of_ble_eq_true rfl, Nat.le_of_ble_eq_true rfl⟩) hK hP hD hS hA hZ rfl hl.1 rfl (Nat.le_of_ble_eq_true rfl) dX9_works_54 ⟨Nat.le_of_ble_eq_true rfl, Nat.le_of_ble_eq_true rfl⟩ (fun ce q9 H locs hP hD hS h1 h2 h3 => ?_)
              exact cX_back hAe hQ hout hlocks hK rfl hP hD hS h1 h2 h3 (Nat.le_refl _) (Nat.le_refl _)
          · replace ew : u18 = w' := ew
            subst ew
            refine cX_vS (As := [.int z0_39]) (rest := []) ⟨hx, hb, hml, hown, hts⟩ (kx_X9_needArgument l hl0 D cI cZ ad u14 z0_39 hc19) (va_cwS 1 hts (gwS mw_392 mw_393 mw_48 mw_394) rfl rfl rfl (by decide +kernel) ⟨Nat.le_of_ble_eq_true rfl, Nat.le_of_ble_eq_true rfl⟩) hK hP hD hS hA hZ rfl hl.1 rfl (Nat.le_of_ble_eq_true rfl) dX9_works_39 ⟨Nat.le_of_ble_eq_true rfl, Nat.le_of_ble_eq_true rfl⟩ (fun ce q9 H locs hP hD hS h1 h2 h3 => ?_)
            exact cX_back hAe hQ hout hlocks hK rfl hP hD hS h1 h2 h3 (Nat.le_refl _) (Nat.le_refl _)
        refine lv_icmp_gt (tgt := 38) hx hb dX9_works_31 (by decide) (fun c47 => ?_) (fun c47 => ?_)
        · replace h := gx_t c47 h
          refine lv_iconst (v := 0) hx hb dX9_works_38 (by decide) ?_
          exact hj39_16 (0 : Int32) _ _ _ h hP hD hS (lv_sub hl [0, 1, 2, 3, 4, 5] rfl)
        · replace h := gx_f c47 h
          refine lv_iconst (v := 1) hx hb dX9_works_34 (by decide) ?_
          refine lv_goto (tgt := 39) hx hb dX9_works_35 (by decide) ?_
          exact hj39_16 (1 : Int32) _ _ _ h hP hD hS (lv_sub hl [0, 1, 2, 3, 4, 5] rfl)
      · replace ew : u14 = w' := ew
        subst ew
        refine cX_vS (As := [.int y11]) (rest := []) ⟨hx, hb, hml, hown, hts⟩ (kx_X9_needIndex l hl0 D cI cZ ad u9 y11 hc15) (va_cwS 1 hts (gwS mw_598 mw_599 mw_48 mw_600) rfl rfl rfl (by decide +kernel) ⟨Nat.le_of_ble_eq_true rfl, Nat.le_of_ble_eq_true rfl⟩) hK hP hD hS hA hZ rfl hl.1 rfl (Nat.le_of_ble_eq_true rfl) dX9_works_26 ⟨Nat.le_of_ble_eq_true rfl, Nat.le_of_ble_eq_true rfl⟩ (fun ce q9 H locs hP hD hS h1 h2 h3 => ?_)
        exact cX_back hAe hQ hout hlocks hK rfl hP hD hS h1 h2 h3 (Nat.le_refl _) (Nat.le_refl _)
    · replace ew : u9 = w' := ew
      subst ew
      refine cX_vS (As := [.int y6]) (rest := []) ⟨hx, hb, hml, hown, hts⟩ (kx_X9_needIndex l hl0 D cI cZ ad u4 y6 hc10) (va_cwS 1 hts (gwS mw_598 mw_599 mw_48 mw_600) rfl rfl rfl (by decide +kernel) ⟨Nat.le_of_ble_eq_true rfl, Nat.le_of_ble_eq_true rfl⟩) hK hP hD hS hA hZ rfl hl.1 rfl (Nat.le_of_ble_eq_true rfl) dX9_works_16 ⟨Nat.le_of_ble_eq_true rfl, Nat.le_of_ble_eq_true rfl⟩ (fun ce q9 H locs hP hD hS h1 h2 h3 => ?_)
      exact cX_back hAe hQ hout hlocks hK rfl hP hD hS h1 h2 h3 (Nat.le_refl _) (Nat.le_refl _)
  · replace ew : u4 = w' := ew
    subst ew
    refine cX_vS (As := [.int y1]) (rest := []) ⟨hx, hb, hml, hown, hts⟩ (kx_X9_needIndex l hl0 D cI cZ ad u y1 hc5) (va_cwS 1 hts (gwS mw_598 mw_599 mw_48 mw_600) rfl rfl rfl (by decide +kernel) ⟨Nat.le_of_ble_eq_true rfl, Nat.le_of_ble_eq_true rfl⟩) hK hP hD hS hA hZ rfl hl.1 rfl (Nat.le_of_ble_eq_true rfl) dX9_works_6 ⟨Nat.le_of_ble_eq_true rfl, Nat.le_of_ble_eq_true rfl⟩ (fun ce q9 H locs hP hD hS h1 h2 h3 => ?_)
    exact cX_back hAe hQ hout hlocks hK rfl hP hD hS h1 h2 h3 (Nat.le_refl _) (Nat.le_refl _)

def rX9_isOn : Room := { frames := 2, cells := 0, slots := 0, locals := 44 }
set_option maxHeartbeats 4000000 in
set_option maxRecDepth 100000 in
theorem k_X9_isOn (l : Launch) (D : va_G) (cI cZ : ClassId) (ad : Nat → Nat) (u : GS) (p0 : Int32) {r : Int32} {w' : GS} (h : g_X9_isOn u p0 = some (.inl r, w')) : MI l yX9_isOn (wm yX9_isOn cX9_isOn 2 (some .boolean)) rX9_isOn D [(cI, .int), (cZ, .boolean)] (wC cI cZ ad u) (wC cI cZ ad w') [.ref (ad 0), .int p0] r := by
  intro sz
  refine Met.ofW (cc := cX9_isOn) (maxL := 2) (ret := (some .boolean)) (by decide) rfl ?_
  intro p e s m args below meth c s₁ B hml hv
  obtain ⟨rfl, hsz, hP, hK, hD0, hZ⟩ := hv
  have hx := B.exec
  have hb := B.bytes
  have hr := B.returns
  have hts : ∀ w ∈ Wall, w.before _ s = true := fun w hw => atoms_spec (ws := wm yX9_isOn cX9_isOn 2 (some .boolean)) B.pre w (List.mem_cons_of_mem _ hw)
  have hown : s.vm.findClass RX9 = some m.cls := findClass_of_methodNamed B.named
  have hlocks := B.notSynchronized
  subst hsz
  have hD := hD0.self (sz := s.heap.size)
  generalize hAe : va_A (wC cI cZ ad u) s.heap.size = A at hD hZ ⊢
  have hA : ∀ q : Nat, s.heap.size ≤ q → A q := fun q h => by rw [← hAe]; exact Or.inr h
  have hS : va_S A s.heap s.heap [] := va_S.rf
  have hf65 := hts _ mw_312
  have hf234 := hts _ mw_233
  have hf7 := hts _ mw_304
  have hl := lv_entry ([.ref (ad 0), .int p0]) (n := 2) (Nat.le_of_ble_eq_true rfl)
  rw [lg_entry_eq]
  generalize (lg_sl ([.ref (ad 0), .int p0]) ++ List.replicate (2 - (lg_sl ([.ref (ad 0), .int p0])).length) Slot.unset).toArray = ls at hl ⊢
  replace hl : lv_has ls 2 [(0, .ref (ad 0)), (1, .int p0)] := hl
  refine w_gen (fun Q hQ => ?_)
  refine lv_iload_n hx hb dX9_isOn_0 rfl (lv_at hl 1 rfl) ?_
  refine lv_iconst (v := 0) hx hb dX9_isOn_1 (by decide) ?_
  refine lv_aload_n hx hb dX9_isOn_2 rfl (lv_at hl 0 rfl) ?_
  refine va_get (D := D) (ci := 9) (v := .ref (ad 8)) (C := RX9) (T := TX9) (N := 10) hx hb hts iX9 hown hK hP 0 rfl rfl 8 (by decide) hf65 (fun _ h9 => h9) rfl dX9_isOn_3 ?_
  refine va_get (D := D) (ci := 0) (v := .int (cB_count u)) (C := RX0) (T := TX0) (N := 6) hx hb hts iX0 hown hK hP 8 rfl rfl 5 (by decide) hf234 (fun _ h9 => h9) rfl dX9_isOn_6 ?_
  refine lv_iconst (v := 1) hx hb dX9_isOn_9 (by decide) ?_
  refine lv_isub hx hb dX9_isOn_10 ?_
  obtain ⟨y1, hc2, h⟩ := gx_bind h
  refine cc_iS (As := [.int p0, .int (0 : Int32), .int ((cB_count u) - (1 : Int32))]) (rest := []) ⟨hx, hb, hml, hown, hts⟩ (k_X9_isWithin l D cI cZ ad u p0 (0 : Int32) ((cB_count u) - (1 : Int32)) hc2) (va_cwS 3 hts (gwS mw_391 mw_273 mw_48 mw_274) rfl rfl rfl (by decide +kernel) ⟨Nat.le_of_ble_eq_true rfl, Nat.le_of_ble_eq_true rfl⟩) hK hP hD hS hA hZ rfl hl.1 rfl (Nat.le_of_ble_eq_true rfl) dX9_isOn_11 ⟨Nat.zero_le _, Nat.zero_le _⟩ (fun H locs hP hD hS => ?_)
  obtain ⟨y3, u4, hc5, h⟩ := gx_xr h
  refine cc_vS (As := [.int y1]) (rest := []) ⟨hx, hb, hml, hown, hts⟩ (k_X9_needIndex l D cI cZ ad u y1 hc5) (va_cwS 1 hts (gwS mw_598 mw_599 mw_48 mw_600) rfl rfl rfl (by decide +kernel) ⟨Nat.le_of_ble_eq_true rfl, Nat.le_of_ble_eq_true rfl⟩) hK hP hD hS hA hZ rfl hl.1 rfl (Nat.le_of_ble_eq_true rfl) dX9_isOn_14 ⟨Nat.zero_le _, Nat.zero_le _⟩ (fun H locs hP hD hS => ?_)
  refine lv_aload_n hx hb dX9_isOn_17 rfl (lv_at hl 0 rfl) ?_
  refine va_get (D := D) (ci := 9) (v := .ref (ad 8)) (C := RX9) (T := TX9) (N := 10) hx hb hts iX9 hown hK hP 0 rfl rfl 8 (by decide) hf65 (fun _ h9 => h9) rfl dX9_isOn_18 ?_
  refine lv_iload_n hx hb dX9_isOn_21 rfl (lv_at hl 1 rfl) ?_
  refine lv_aload_n hx hb dX9_isOn_22 rfl (lv_at hl 0 rfl) ?_
  refine va_get (D := D) (ci := 9) (v := .int (c_minute u4)) (C := RX9) (T := TX9) (N := 10) hx hb hts iX9 hown hK hP 0 rfl rfl 0 (by decide) hf7 (fun _ h9 => h9) rfl dX9_isOn_23 ?_
  obtain ⟨y6, hc7, h⟩ := gx_bind h
  refine cc_iV (As := [.int p0, .int (c_minute u4)]) (rest := []) ⟨hx, hb, hml, hown, hts⟩ (k_X0_isRunning l D cI cZ ad u4 p0 (c_minute u4) hc7) (cwV 2 hts (gwV mw_811 mw_280 mw_281 mw_56 mw_282) rfl rfl rfl (by decide +kernel) ⟨Nat.le_of_ble_eq_true rfl, Nat.le_of_ble_eq_true rfl⟩) hK hP hD hS hA hZ (ci := 0) (q0 := 8) rfl rfl rfl hl.1 rfl (Nat.le_of_ble_eq_true rfl) dX9_isOn_26 ⟨Nat.zero_le _, Nat.zero_le _⟩ (fun H locs hP hD hS => ?_)
  obtain ⟨bo, h⟩ := gx_bo h
  cases h
  exact cc_ret hx hb hr bo hQ hK hP hD hS rfl dX9_isOn_29 hlocks

def rx_X9_isOn : Room := { frames := 7, cells := 1, slots := 6, locals := 110 }
set_option maxHeartbeats 4000000 in
set_option maxRecDepth 100000 in
theorem kx_X9_isOn (l : Launch) (hl0 : l.stackTraces = false) (D : va_G) (cI cZ : ClassId) (ad : Nat → Nat) (u : GS) (p0 : Int32) {E : String} {w' : GS} (h : g_X9_isOn u p0 = some (.inr E, w')) : XI l yX9_isOn (wm yX9_isOn cX9_isOn 2 (some .boolean)) rx_X9_isOn D [(cI, .int), (cZ, .boolean)] (wC cI cZ ad u) (wC cI cZ ad w') [.ref (ad 0), .int p0] E := by
  intro sz
  refine vx_ofW (cc := cX9_isOn) (maxL := 2) (ret := (some .boolean)) (by decide) rfl ?_
  intro p e s m args below meth c s₁ B hml hout hv
  obtain ⟨rfl, hsz, hP, hK, hD0, hZ⟩ := hv
  have hx := B.exec
  have hb := B.bytes
  have hts : ∀ w ∈ Wall, w.before _ s = true := fun w hw => atoms_spec (ws := wm yX9_isOn cX9_isOn 2 (some .boolean)) B.pre w (List.mem_cons_of_mem _ hw)
  have hown : s.vm.findClass RX9 = some m.cls := findClass_of_methodNamed B.named
  have hlocks := B.notSynchronized
  subst hsz
  have hD := hD0.self (sz := s.heap.size)
  generalize hAe : va_A (wC cI cZ ad u) s.heap.size = A at hD hZ
  have hA : ∀ q : Nat, s.heap.size ≤ q → A q := fun q h => by rw [← hAe]; exact Or.inr h
  have hS : va_S A s.heap s.heap [] := va_S.rf
  have hf65 := hts _ mw_312
  have hf234 := hts _ mw_233
  have hf7 := hts _ mw_304
  have hl := lv_entry ([.ref (ad 0), .int p0]) (n := 2) (Nat.le_of_ble_eq_true rfl)
  rw [lg_entry_eq]
  generalize (lg_sl ([.ref (ad 0), .int p0]) ++ List.replicate (2 - (lg_sl ([.ref (ad 0), .int p0])).length) Slot.unset).toArray = ls at hl ⊢
  replace hl : lv_has ls 2 [(0, .ref (ad 0)), (1, .int p0)] := hl
  refine w_gen (fun Q hQ => ?_)
  refine lv_iload_n hx hb dX9_isOn_0 rfl (lv_at hl 1 rfl) ?_
  refine lv_iconst (v := 0) hx hb dX9_isOn_1 (by decide) ?_
  refine lv_aload_n hx hb dX9_isOn_2 rfl (lv_at hl 0 rfl) ?_
  refine va_get (D := D) (ci := 9) (v := .ref (ad 8)) (C := RX9) (T := TX9) (N := 10) hx hb hts iX9 hown hK hP 0 rfl rfl 8 (by decide) hf65 (fun _ h9 => h9) rfl dX9_isOn_3 ?_
  refine va_get (D := D) (ci := 0) (v := .int (cB_count u)) (C := RX0) (T := TX0) (N := 6) hx hb hts iX0 hown hK hP 8 rfl rfl 5 (by decide) hf234 (fun _ h9 => h9) rfl dX9_isOn_6 ?_
  refine lv_iconst (v := 1) hx hb dX9_isOn_9 (by decide) ?_
  refine lv_isub hx hb dX9_isOn_10 ?_
  obtain ⟨y1, hc2, h⟩ := gx_bind h
  refine cc_iS (As := [.int p0, .int (0 : Int32), .int ((cB_count u) - (1 : Int32))]) (rest := []) ⟨hx, hb, hml, hown, hts⟩ (k_X9_isWithin l D cI cZ ad u p0 (0 : Int32) ((cB_count u) - (1 : Int32)) hc2) (va_cwS 3 hts (gwS mw_391 mw_273 mw_48 mw_274) rfl rfl rfl (by decide +kernel) ⟨Nat.le_of_ble_eq_true rfl, Nat.le_of_ble_eq_true rfl⟩) hK hP hD hS hA hZ rfl hl.1 rfl (Nat.le_of_ble_eq_true rfl) dX9_isOn_11 ⟨Nat.zero_le _, Nat.zero_le _⟩ (fun H locs hP hD hS => ?_)
  rcases gx_xx h with ⟨y3, u4, hc5, h⟩ | ⟨u4, hc5, ew⟩
  · refine cc_vS (As := [.int y1]) (rest := []) ⟨hx, hb, hml, hown, hts⟩ (k_X9_needIndex l D cI cZ ad u y1 hc5) (va_cwS 1 hts (gwS mw_598 mw_599 mw_48 mw_600) rfl rfl rfl (by decide +kernel) ⟨Nat.le_of_ble_eq_true rfl, Nat.le_of_ble_eq_true rfl⟩) hK hP hD hS hA hZ rfl hl.1 rfl (Nat.le_of_ble_eq_true rfl) dX9_isOn_14 ⟨Nat.zero_le _, Nat.zero_le _⟩ (fun H locs hP hD hS => ?_)
    refine lv_aload_n hx hb dX9_isOn_17 rfl (lv_at hl 0 rfl) ?_
    refine va_get (D := D) (ci := 9) (v := .ref (ad 8)) (C := RX9) (T := TX9) (N := 10) hx hb hts iX9 hown hK hP 0 rfl rfl 8 (by decide) hf65 (fun _ h9 => h9) rfl dX9_isOn_18 ?_
    refine lv_iload_n hx hb dX9_isOn_21 rfl (lv_at hl 1 rfl) ?_
    refine lv_aload_n hx hb dX9_isOn_22 rfl (lv_at hl 0 rfl) ?_
    refine va_get (D := D) (ci := 9) (v := .int (c_minute u4)) (C := RX9) (T := TX9) (N := 10) hx hb hts iX9 hown hK hP 0 rfl rfl 0 (by decide) hf7 (fun _ h9 => h9) rfl dX9_isOn_23 ?_
    obtain ⟨y6, hc7, h⟩ := gx_bind h
    refine cc_iV (As := [.int p0, .int (c_minute u4)]) (rest := []) ⟨hx, hb, hml, hown, hts⟩ (k_X0_isRunning l D cI cZ ad u4 p0 (c_minute u4) hc7) (cwV 2 hts (gwV mw_811 mw_280 mw_281 mw_56 mw_282) rfl rfl rfl (by decide +kernel) ⟨Nat.le_of_ble_eq_true rfl, Nat.le_of_ble_eq_true rfl⟩) hK hP hD hS hA hZ (ci := 0) (q0 := 8) rfl rfl rfl hl.1 rfl (Nat.le_of_ble_eq_true rfl) dX9_isOn_26 ⟨Nat.zero_le _, Nat.zero_le _⟩ (fun H locs hP hD hS => ?_)
    obtain ⟨bo, h⟩ := gx_bo h
    cases h
  · replace ew : u4 = w' := ew
    subst ew
    refine cX_vS (As := [.int y1]) (rest := []) ⟨hx, hb, hml, hown, hts⟩ (kx_X9_needIndex l hl0 D cI cZ ad u y1 hc5) (va_cwS 1 hts (gwS mw_598 mw_599 mw_48 mw_600) rfl rfl rfl (by decide +kernel) ⟨Nat.le_of_ble_eq_true rfl, Nat.le_of_ble_eq_true rfl⟩) hK hP hD hS hA hZ rfl hl.1 rfl (Nat.le_of_ble_eq_true rfl) dX9_isOn_14 ⟨Nat.le_of_ble_eq_true rfl, Nat.le_of_ble_eq_true rfl⟩ (fun ce q9 H locs hP hD hS h1 h2 h3 => ?_)
    exact cX_back hAe hQ hout hlocks hK rfl hP hD hS h1 h2 h3 (Nat.le_refl _) (Nat.le_refl _)

def rX9_proof : Room := { frames := 3, cells := 0, slots := 0, locals := 66 }
set_option maxHeartbeats 4000000 in
set_option maxRecDepth 100000 in
theorem k_X9_proof (l : Launch) (D : va_G) (cI cZ : ClassId) (ad : Nat → Nat) (u : GS) (p0 : Int32) (p1 : Int32) (p2 : Int32) {r : Int32} {w' : GS} (h : g_X9_proof u p0 p1 p2 = some (.inl r, w')) : MI l yX9_proof (wm yX9_proof cX9_proof 4 (some .int)) rX9_proof D [(cI, .int), (cZ, .boolean)] (wC cI cZ ad u) (wC cI cZ ad w') [.ref (ad 0), .int p0, .int p1, .int p2] r := by
  intro sz
  refine Met.ofW (cc := cX9_proof) (maxL := 4) (ret := (some .int)) (by decide) rfl ?_
  intro p e s m args below meth c s₁ B hml hv
  obtain ⟨rfl, hsz, hP, hK, hD0, hZ⟩ := hv
  have hx := B.exec
  have hb := B.bytes
  have hr := B.returns
  have hts : ∀ w ∈ Wall, w.before _ s = true := fun w hw => atoms_spec (ws := wm yX9_proof cX9_proof 4 (some .int)) B.pre w (List.mem_cons_of_mem _ hw)
  have hown : s.vm.findClass RX9 = some m.cls := findClass_of_methodNamed B.named
  have hlocks := B.notSynchronized
  subst hsz
  have hD := hD0.self (sz := s.heap.size)
  generalize hAe : va_A (wC cI cZ ad u) s.heap.size = A at hD hZ ⊢
  have hA : ∀ q : Nat, s.heap.size ≤ q → A q := fun q h => by rw [← hAe]; exact Or.inr h
  have hS : va_S A s.heap s.heap [] := va_S.rf
  have hf7 := hts _ mw_304
  have hf72 := hts _ mw_313
  have hl := lv_entry ([.ref (ad 0), .int p0, .int p1, .int p2]) (n := 4) (Nat.le_of_ble_eq_true rfl)
  rw [lg_entry_eq]
  generalize (lg_sl ([.ref (ad 0), .int p0, .int p1, .int p2]) ++ List.replicate (4 - (lg_sl ([.ref (ad 0), .int p0, .int p1, .int p2])).length) Slot.unset).toArray = ls at hl ⊢
  replace hl : lv_has ls 4 [(0, .ref (ad 0)), (1, .int p0), (2, .int p1), (3, .int p2)] := hl
  refine w_gen (fun Q hQ => ?_)
  refine lv_iload_n hx hb dX9_proof_0 rfl (lv_at hl 2 rfl) ?_
  obtain ⟨y1, u2, hc3, h⟩ := gx_xr h
  refine cc_vS (As := [.int p1]) (rest := []) ⟨hx, hb, hml, hown, hts⟩ (k_X9_needSection l D cI cZ ad u p1 hc3) (va_cwS 1 hts (gwS mw_595 mw_596 mw_48 mw_597) rfl rfl rfl (by decide +kernel) ⟨Nat.le_of_ble_eq_true rfl, Nat.le_of_ble_eq_true rfl⟩) hK hP hD hS hA hZ rfl hl.1 rfl (Nat.le_of_ble_eq_true rfl) dX9_proof_1 ⟨Nat.zero_le _, Nat.zero_le _⟩ (fun H locs hP hD hS => ?_)
  refine lv_iload_n hx hb dX9_proof_4 rfl (lv_at hl 1 rfl) ?_
  obtain ⟨j13_4, ej13_4, h⟩ := gx_let h
  have hj13_4 : ∀ (z0_13 : Int32) (H : Heap) (locs : List Loc) (ls : Array Slot), j13_4 z0_13 = some (.inl r, w') → va_P D vwCl (wC cI cZ ad u2) H → va_D A (wC cI cZ ad u2) → va_S A s.heap H locs → lv_has ls 4 [(0, .ref (ad 0)), (1, .int p0), (2, .int p1), (3, .int p2)] → W p l e rX9_proof s m ([.ref (ad 0), .int p0, .int p1, .int p2] : List Value).toArray below meth c H locs 0 0 Q (F0 m 13 ls [.int z0_13]) := by
    intro z0_13 H locs ls h hP hD hS hl
    subst ej13_4
    obtain ⟨y5, u6, hc7, h⟩ := gx_xr h
    refine cc_vS (As := [.int z0_13]) (rest := []) ⟨hx, hb, hml, hown, hts⟩ (k_X9_needArgument l D cI cZ ad u2 z0_13 hc7) (va_cwS 1 hts (gwS mw_392 mw_393 mw_48 mw_394) rfl rfl rfl (by decide +kernel) ⟨Nat.le_of_ble_eq_true rfl, Nat.le_of_ble_eq_true rfl⟩) hK hP hD hS hA hZ rfl hl.1 rfl (Nat.le_of_ble_eq_true rfl) dX9_proof_13 ⟨Nat.zero_le _, Nat.zero_le _⟩ (fun H locs hP hD hS => ?_)
    refine lv_iload_n hx hb dX9_proof_16 rfl (lv_at hl 3 rfl) ?_
    refine lv_iconst (v := 0) hx hb dX9_proof_17 (by decide) ?_
    refine lv_iconst (v := 4) hx hb dX9_proof_18 (by decide) ?_
    obtain ⟨y8, hc9, h⟩ := gx_bind h
    refine cc_iS (As := [.int p2, .int (0 : Int32), .int (4 : Int32)]) (rest := []) ⟨hx, hb, hml, hown, hts⟩ (k_X9_isWithin l D cI cZ ad u6 p2 (0 : Int32) (4 : Int32) hc9) (va_cwS 3 hts (gwS mw_391 mw_273 mw_48 mw_274) rfl rfl rfl (by decide +kernel) ⟨Nat.le_of_ble_eq_true rfl, Nat.le_of_ble_eq_true rfl⟩) hK hP hD hS hA hZ rfl hl.1 rfl (Nat.le_of_ble_eq_true rfl) dX9_proof_19 ⟨Nat.zero_le _, Nat.zero_le _⟩ (fun H locs hP hD hS => ?_)
    obtain ⟨y10, u11, hc12, h⟩ := gx_xr h
    refine cc_vS (As := [.int y8]) (rest := []) ⟨hx, hb, hml, hown, hts⟩ (k_X9_needArgument l D cI cZ ad u6 y8 hc12) (va_cwS 1 hts (gwS mw_392 mw_393 mw_48 mw_394) rfl rfl rfl (by decide +kernel) ⟨Nat.le_of_ble_eq_true rfl, Nat.le_of_ble_eq_true rfl⟩) hK hP hD hS hA hZ rfl hl.1 rfl (Nat.le_of_ble_eq_true rfl) dX9_proof_22 ⟨Nat.zero_le _, Nat.zero_le _⟩ (fun H locs hP hD hS => ?_)
    refine lv_iload_n hx hb dX9_proof_25 rfl (lv_at hl 1 rfl) ?_
    refine lv_aload_n hx hb dX9_proof_26 rfl (lv_at hl 0 rfl) ?_
    refine va_get (D := D) (ci := 9) (v := .int (c_minute u11)) (C := RX9) (T := TX9) (N := 10) hx hb hts iX9 hown hK hP 0 rfl rfl 0 (by decide) hf7 (fun _ h9 => h9) rfl dX9_proof_27 ?_
    obtain ⟨y13, hc14, h⟩ := gx_bind h
    refine cc_iS (As := [.int p0, .int (c_minute u11)]) (rest := []) ⟨hx, hb, hml, hown, hts⟩ (k_X5_isKept l D cI cZ ad u11 p0 (c_minute u11) hc14) (va_cwS 2 hts (gwS mw_819 mw_820 mw_57 mw_821) rfl rfl rfl (by decide +kernel) ⟨Nat.le_of_ble_eq_true rfl, Nat.le_of_ble_eq_true rfl⟩) hK hP hD hS hA hZ rfl hl.1 rfl (Nat.le_of_ble_eq_true rfl) dX9_proof_30 ⟨Nat.zero_le _, Nat.zero_le _⟩ (fun H locs hP hD hS => ?_)
    obtain ⟨y15, u16, hc17, h⟩ := gx_xr h
    refine cc_vS (As := [.int y13]) (rest := []) ⟨hx, hb, hml, hown, hts⟩ (k_X9_needState l D cI cZ ad u11 y13 hc17) (va_cwS 1 hts (gwS mw_471 mw_472 mw_48 mw_473) rfl rfl rfl (by decide +kernel) ⟨Nat.le_of_ble_eq_true rfl, Nat.le_of_ble_eq_true rfl⟩) hK hP hD hS hA hZ rfl hl.1 rfl (Nat.le_of_ble_eq_true rfl) dX9_proof_33 ⟨Nat.zero_le _, Nat.zero_le _⟩ (fun H locs hP hD hS => ?_)
    refine lv_iload_n hx hb dX9_proof_36 rfl (lv_at hl 3 rfl) ?_
    refine lv_if_ne (tgt := 50) hx hb dX9_proof_37 (by decide) (fun c18 => ?_) (fun c18 => ?_)
    · replace h := gx_f c18 h
      refine lv_aload_n hx hb dX9_proof_50 rfl (lv_at hl 0 rfl) ?_
      refine va_get (D := D) (ci := 9) (v := .ref (ad 9)) (C := RX9) (T := TX9) (N := 10) hx hb hts iX9 hown hK hP 0 rfl rfl 9 (by decide) hf72 (fun _ h9 => h9) rfl dX9_proof_51 ?_
      refine lv_iload_n hx hb dX9_proof_54 rfl (lv_at hl 1 rfl) ?_
      refine lv_iload_n hx hb dX9_proof_55 rfl (lv_at hl 2 rfl) ?_
      refine lv_iload_n hx hb dX9_proof_56 rfl (lv_at hl 3 rfl) ?_
      refine lv_iconst (v := 1) hx hb dX9_proof_57 (by decide) ?_
      refine lv_isub hx hb dX9_proof_58 ?_
      obtain ⟨y19, hc20, h⟩ := gx_bind h
      refine cc_iV (As := [.int p0, .int p1, .int (p2 - (1 : Int32))]) (rest := []) ⟨hx, hb, hml, hown, hts⟩ (k_X5_laneSign l D cI cZ ad u16 p0 p1 (p2 - (1 : Int32)) hc20) (cwV 3 hts (gwV mw_827 mw_828 mw_829 mw_57 mw_830) rfl rfl rfl (by decide +kernel) ⟨Nat.le_of_ble_eq_true rfl, Nat.le_of_ble_eq_true rfl⟩) hK hP hD hS hA hZ (ci := 5) (q0 := 9) rfl rfl rfl hl.1 rfl (Nat.le_of_ble_eq_true rfl) dX9_proof_59 ⟨Nat.zero_le _, Nat.zero_le _⟩ (fun H locs hP hD hS => ?_)
      cases h
      exact cc_ret hx hb hr rfl hQ hK hP hD hS rfl dX9_proof_62 hlocks
    · replace h := gx_t c18 h
      refine lv_aload_n hx hb dX9_proof_40 rfl (lv_at hl 0 rfl) ?_
      refine va_get (D := D) (ci := 9) (v := .ref (ad 9)) (C := RX9) (T := TX9) (N := 10) hx hb hts iX9 hown hK hP 0 rfl rfl 9 (by decide) hf72 (fun _ h9 => h9) rfl dX9_proof_41 ?_
      refine lv_iload_n hx hb dX9_proof_44 rfl (lv_at hl 1 rfl) ?_
      refine lv_iload_n hx hb dX9_proof_45 rfl (lv_at hl 2 rfl) ?_
      obtain ⟨y21, hc22, h⟩ := gx_bind h
      refine cc_iV (As := [.int p0, .int p1]) (rest := []) ⟨hx, hb, hml, hown, hts⟩ (k_X5_speedSign l D cI cZ ad u16 p0 p1 hc22) (cwV 2 hts (gwV mw_823 mw_824 mw_825 mw_57 mw_826) rfl rfl rfl (by decide +kernel) ⟨Nat.le_of_ble_eq_true rfl, Nat.le_of_ble_eq_true rfl⟩) hK hP hD hS hA hZ (ci := 5) (q0 := 9) rfl rfl rfl hl.1 rfl (Nat.le_of_ble_eq_true rfl) dX9_proof_46 ⟨Nat.zero_le _, Nat.zero_le _⟩ (fun H locs hP hD hS => ?_)
      cases h
      exact cc_ret hx hb hr rfl hQ hK hP hD hS rfl dX9_proof_49 hlocks
  refine lv_if_lt (tgt := 12) hx hb dX9_proof_5 (by decide) (fun c23 => ?_) (fun c23 => ?_)
  · replace h := gx_t c23 h
    refine lv_iconst (v := 0) hx hb dX9_proof_12 (by decide) ?_
    exact hj13_4 (0 : Int32) _ _ _ h hP hD hS (lv_sub hl [0, 1, 2, 3] rfl)
  · replace h := gx_f c23 h
    refine lv_iconst (v := 1) hx hb dX9_proof_8 (by decide) ?_
    refine lv_goto (tgt := 13) hx hb dX9_proof_9 (by decide) ?_
    exact hj13_4 (1 : Int32) _ _ _ h hP hD hS (lv_sub hl [0, 1, 2, 3] rfl)

def rx_X9_proof : Room := { frames := 8, cells := 1, slots := 6, locals := 130 }
set_option maxHeartbeats 4000000 in
set_option maxRecDepth 100000 in
theorem kx_X9_proof (l : Launch) (hl0 : l.stackTraces = false) (D : va_G) (cI cZ : ClassId) (ad : Nat → Nat) (u : GS) (p0 : Int32) (p1 : Int32) (p2 : Int32) {E : String} {w' : GS} (h : g_X9_proof u p0 p1 p2 = some (.inr E, w')) : XI l yX9_proof (wm yX9_proof cX9_proof 4 (some .int)) rx_X9_proof D [(cI, .int), (cZ, .boolean)] (wC cI cZ ad u) (wC cI cZ ad w') [.ref (ad 0), .int p0, .int p1, .int p2] E := by
  intro sz
  refine vx_ofW (cc := cX9_proof) (maxL := 4) (ret := (some .int)) (by decide) rfl ?_
  intro p e s m args below meth c s₁ B hml hout hv
  obtain ⟨rfl, hsz, hP, hK, hD0, hZ⟩ := hv
  have hx := B.exec
  have hb := B.bytes
  have hts : ∀ w ∈ Wall, w.before _ s = true := fun w hw => atoms_spec (ws := wm yX9_proof cX9_proof 4 (some .int)) B.pre w (List.mem_cons_of_mem _ hw)
  have hown : s.vm.findClass RX9 = some m.cls := findClass_of_methodNamed B.named
  have hlocks := B.notSynchronized
  subst hsz
  have hD := hD0.self (sz := s.heap.size)
  generalize hAe : va_A (wC cI cZ ad u) s.heap.size = A at hD hZ
  have hA : ∀ q : Nat, s.heap.size ≤ q → A q := fun q h => by rw [← hAe]; exact Or.inr h
  have hS : va_S A s.heap s.heap [] := va_S.rf
  have hf7 := hts _ mw_304
  have hf72 := hts _ mw_313
  have hl := lv_entry ([.ref (ad 0), .int p0, .int p1, .int p2]) (n := 4) (Nat.le_of_ble_eq_true rfl)
  rw [lg_entry_eq]
  generalize (lg_sl ([.ref (ad 0), .int p0, .int p1, .int p2]) ++ List.replicate (4 - (lg_sl ([.ref (ad 0), .int p0, .int p1, .int p2])).length) Slot.unset).toArray = ls at hl ⊢
  replace hl : lv_has ls 4 [(0, .ref (ad 0)), (1, .int p0), (2, .int p1), (3, .int p2)] := hl
  refine w_gen (fun Q hQ => ?_)
  refine lv_iload_n hx hb dX9_proof_0 rfl (lv_at hl 2 rfl) ?_
  rcases gx_xx h with ⟨y1, u2, hc3, h⟩ | ⟨u2, hc3, ew⟩
  · refine cc_vS (As := [.int p1]) (rest := []) ⟨hx, hb, hml, hown, hts⟩ (k_X9_needSection l D cI cZ ad u p1 hc3) (va_cwS 1 hts (gwS mw_595 mw_596 mw_48 mw_597) rfl rfl rfl (by decide +kernel) ⟨Nat.le_of_ble_eq_true rfl, Nat.le_of_ble_eq_true rfl⟩) hK hP hD hS hA hZ rfl hl.1 rfl (Nat.le_of_ble_eq_true rfl) dX9_proof_1 ⟨Nat.zero_le _, Nat.zero_le _⟩ (fun H locs hP hD hS => ?_)
    refine lv_iload_n hx hb dX9_proof_4 rfl (lv_at hl 1 rfl) ?_
    obtain ⟨j13_4, ej13_4, h⟩ := gx_let h
    have hj13_4 : ∀ (z0_13 : Int32) (H : Heap) (locs : List Loc) (ls : Array Slot), j13_4 z0_13 = some (.inr E, w') → va_P D vwCl (wC cI cZ ad u2) H → va_D A (wC cI cZ ad u2) → va_S A s.heap H locs → lv_has ls 4 [(0, .ref (ad 0)), (1, .int p0), (2, .int p1), (3, .int p2)] → W p l e rx_X9_proof s m ([.ref (ad 0), .int p0, .int p1, .int p2] : List Value).toArray below meth c H locs 0 0 Q (F0 m 13 ls [.int z0_13]) := by
      intro z0_13 H locs ls h hP hD hS hl
      subst ej13_4
      rcases gx_xx h with ⟨y5, u6, hc7, h⟩ | ⟨u6, hc7, ew⟩
      · refine cc_vS (As := [.int z0_13]) (rest := []) ⟨hx, hb, hml, hown, hts⟩ (k_X9_needArgument l D cI cZ ad u2 z0_13 hc7) (va_cwS 1 hts (gwS mw_392 mw_393 mw_48 mw_394) rfl rfl rfl (by decide +kernel) ⟨Nat.le_of_ble_eq_true rfl, Nat.le_of_ble_eq_true rfl⟩) hK hP hD hS hA hZ rfl hl.1 rfl (Nat.le_of_ble_eq_true rfl) dX9_proof_13 ⟨Nat.zero_le _, Nat.zero_le _⟩ (fun H locs hP hD hS => ?_)
        refine lv_iload_n hx hb dX9_proof_16 rfl (lv_at hl 3 rfl) ?_
        refine lv_iconst (v := 0) hx hb dX9_proof_17 (by decide) ?_
        refine lv_iconst (v := 4) hx hb dX9_proof_18 (by decide) ?_
        obtain ⟨y8, hc9, h⟩ := gx_bind h
        refine cc_iS (As := [.int p2, .int (0 : Int32), .int (4 : Int32)]) (rest := []) ⟨hx, hb, hml, hown, hts⟩ (k_X9_isWithin l D cI cZ ad u6 p2 (0 : Int32) (4 : Int32) hc9) (va_cwS 3 hts (gwS mw_391 mw_273 mw_48 mw_274) rfl rfl rfl (by decide +kernel) ⟨Nat.le_of_ble_eq_true rfl, Nat.le_of_ble_eq_true rfl⟩) hK hP hD hS hA hZ rfl hl.1 rfl (Nat.le_of_ble_eq_true rfl) dX9_proof_19 ⟨Nat.zero_le _, Nat.zero_le _⟩ (fun H locs hP hD hS => ?_)
        rcases gx_xx h with ⟨y10, u11, hc12, h⟩ | ⟨u11, hc12, ew⟩
        · refine cc_vS (As := [.int y8]) (rest := []) ⟨hx, hb, hml, hown, hts⟩ (k_X9_needArgument l D cI cZ ad u6 y8 hc12) (va_cwS 1 hts (gwS mw_392 mw_393 mw_48 mw_394) rfl rfl rfl (by decide +kernel) ⟨Nat.le_of_ble_eq_true rfl, Nat.le_of_ble_eq_true rfl⟩) hK hP hD hS hA hZ rfl hl.1 rfl (Nat.le_of_ble_eq_true rfl) dX9_proof_22 ⟨Nat.zero_le _, Nat.zero_le _⟩ (fun H locs hP hD hS => ?_)
          refine lv_iload_n hx hb dX9_proof_25 rfl (lv_at hl 1 rfl) ?_
          refine lv_aload_n hx hb dX9_proof_26 rfl (lv_at hl 0 rfl) ?_
          refine va_get (D := D) (ci := 9) (v := .int (c_minute u11)) (C := RX9) (T := TX9) (N := 10) hx hb hts iX9 hown hK hP 0 rfl rfl 0 (by decide) hf7 (fun _ h9 => h9) rfl dX9_proof_27 ?_
          obtain ⟨y13, hc14, h⟩ := gx_bind h
          refine cc_iS (As := [.int p0, .int (c_minute u11)]) (rest := []) ⟨hx, hb, hml, hown, hts⟩ (k_X5_isKept l D cI cZ ad u11 p0 (c_minute u11) hc14) (va_cwS 2 hts (gwS mw_819 mw_820 mw_57 mw_821) rfl rfl rfl (by decide +kernel) ⟨Nat.le_of_ble_eq_true rfl, Nat.le_of_ble_eq_true rfl⟩) hK hP hD hS hA hZ rfl hl.1 rfl (Nat.le_of_ble_eq_true rfl) dX9_proof_30 ⟨Nat.zero_le _, Nat.zero_le _⟩ (fun H locs hP hD hS => ?_)
          rcases gx_xx h with ⟨y15, u16, hc17, h⟩ | ⟨u16, hc17, ew⟩
          · refine cc_vS (As := [.int y13]) (rest := []) ⟨hx, hb, hml, hown, hts⟩ (k_X9_needState l D cI cZ ad u11 y13 hc17) (va_cwS 1 hts (gwS mw_471 mw_472 mw_48 mw_473) rfl rfl rfl (by decide +kernel) ⟨Nat.le_of_ble_eq_true rfl, Nat.le_of_ble_eq_true rfl⟩) hK hP hD hS hA hZ rfl hl.1 rfl (Nat.le_of_ble_eq_true rfl) dX9_proof_33 ⟨Nat.zero_le _, Nat.zero_le _⟩ (fun H locs hP hD hS => ?_)
            refine lv_iload_n hx hb dX9_proof_36 rfl (lv_at hl 3 rfl) ?_
            refine lv_if_ne (tgt := 50) hx hb dX9_proof_37 (by decide) (fun c18 => ?_) (fun c18 => ?_)
            · replace h := gx_f c18 h
              refine lv_aload_n hx hb dX9_proof_50 rfl (lv_at hl 0 rfl) ?_
              refine va_get (D := D) (ci := 9) (v := .ref (ad 9)) (C := RX9) (T := TX9) (N := 10) hx hb hts iX9 hown hK hP 0 rfl rfl 9 (by decide) hf72 (fun _ h9 => h9) rfl dX9_proof_51 ?_
              refine lv_iload_n hx hb dX9_proof_54 rfl (lv_at hl 1 rfl) ?_
              refine lv_iload_n hx hb dX9_proof_55 rfl (lv_at hl 2 rfl) ?_
              refine lv_iload_n hx hb dX9_proof_56 rfl (lv_at hl 3 rfl) ?_
              refine lv_iconst (v := 1) hx hb dX9_proof_57 (by decide) ?_
              refine lv_isub hx hb dX9_proof_58 ?_
              obtain ⟨y19, hc20, h⟩ := gx_bind h
              refine cc_iV (As := [.int p0, .int p1, .int (p2 - (1 : Int32))]) (rest := []) ⟨hx, hb, hml, hown, hts⟩ (k_X5_laneSign l D cI cZ ad u16 p0 p1 (p2 - (1 : Int32)) hc20) (cwV 3 hts (gwV mw_827 mw_828 mw_829 mw_57 mw_830) rfl rfl rfl (by decide +kernel) ⟨Nat.le_of_ble_eq_true rfl, Nat.le_of_ble_eq_true rfl⟩) hK hP hD hS hA hZ (ci := 5) (q0 := 9) rfl rfl rfl hl.1 rfl (Nat.le_of_ble_eq_true rfl) dX9_proof_59 ⟨Nat.zero_le _, Nat.zero_le _⟩ (fun H locs hP hD hS => ?_)
              cases h
            · replace h := gx_t c18 h
              refine lv_aload_n hx hb dX9_proof_40 rfl (lv_at hl 0 rfl) ?_
              refine va_get (D := D) (ci := 9) (v := .ref (ad 9)) (C := RX9) (T := TX9) (N := 10) hx hb hts iX9 hown hK hP 0 rfl rfl 9 (by decide) hf72 (fun _ h9 => h9) rfl dX9_proof_41 ?_
              refine lv_iload_n hx hb dX9_proof_44 rfl (lv_at hl 1 rfl) ?_
              refine lv_iload_n hx hb dX9_proof_45 rfl (lv_at hl 2 rfl) ?_
              obtain ⟨y21, hc22, h⟩ := gx_bind h
              refine cc_iV (As := [.int p0, .int p1]) (rest := []) ⟨hx, hb, hml, hown, hts⟩ (k_X5_speedSign l D cI cZ ad u16 p0 p1 hc22) (cwV 2 hts (gwV mw_823 mw_824 mw_825 mw_57 mw_826) rfl rfl rfl (by decide +kernel) ⟨Nat.le_of_ble_eq_true rfl, Nat.le_of_ble_eq_true rfl⟩) hK hP hD hS hA hZ (ci := 5) (q0 := 9) rfl rfl rfl hl.1 rfl (Nat.le_of_ble_eq_true rfl) dX9_proof_46 ⟨Nat.zero_le _, Nat.zero_le _⟩ (fun H locs hP hD hS => ?_)
              cases h
          · replace ew : u16 = w' := ew
            subst ew
            refine cX_vS (As := [.int y13]) (rest := []) ⟨hx, hb, hml, hown, hts⟩ (kx_X9_needState l hl0 D cI cZ ad u11 y13 hc17) (va_cwS 1 hts (gwS mw_471 mw_472 mw_48 mw_473) rfl rfl rfl (by decide +kernel) ⟨Nat.le_of_ble_eq_true rfl, Nat.le_of_ble_eq_true rfl⟩) hK hP hD hS hA hZ rfl hl.1 rfl (Nat.le_of_ble_eq_true rfl) dX9_proof_33 ⟨Nat.le_of_ble_eq_true rfl, Nat.le_of_ble_eq_true rfl⟩ (fun ce q9 H locs hP hD hS h1 h2 h3 => ?_)
            exact cX_back hAe hQ hout hlocks hK rfl hP hD hS h1 h2 h3 (Nat.le_refl _) (Nat.le_refl _)
        · replace ew : u11 = w' := ew
          subst ew
          refine cX_vS (As := [.int y8]) (rest := []) ⟨hx, hb, hml, hown, hts⟩ (kx_X9_needArgument l hl0 D cI cZ ad u6 y8 hc12) (va_cwS 1 hts (gwS mw_392 mw_393 mw_48 mw_394) rfl rfl rfl (by decide +kernel) ⟨Nat.le_of_ble_eq_true rfl, Nat.le_of_ble_eq_true rfl⟩) hK hP hD hS hA hZ rfl hl.1 rfl (Nat.le_of_ble_eq_true rfl) dX9_proof_22 ⟨Nat.le_of_ble_eq_true rfl, Nat.le_of_ble_eq_true rfl⟩ (fun ce q9 H locs hP hD hS h1 h2 h3 => ?_)
          exact cX_back hAe hQ hout hlocks hK rfl hP hD hS h1 h2 h3 (Nat.le_refl _) (Nat.le_refl _)
      · replace ew : u6 = w' := ew
        subst ew
        refine cX_vS (As := [.int z0_13]) (rest := []) ⟨hx, hb, hml, hown, hts⟩ (kx_X9_needArgument l hl0 D cI cZ ad u2 z0_13 hc7) (va_cwS 1 hts (gwS mw_392 mw_393 mw_48 mw_394) rfl rfl rfl (by decide +kernel) ⟨Nat.le_of_ble_eq_true rfl, Nat.le_of_ble_eq_true rfl⟩) hK hP hD hS hA hZ rfl hl.1 rfl (Nat.le_of_ble_eq_true rfl) dX9_proof_13 ⟨Nat.le_of_ble_eq_true rfl, Nat.le_of_ble_eq_true rfl⟩ (fun ce q9 H locs hP hD hS h1 h2 h3 => ?_)
        exact cX_back hAe hQ hout hlocks hK rfl hP hD hS h1 h2 h3 (Nat.le_refl _) (Nat.le_refl _)
    refine lv_if_lt (tgt := 12) hx hb dX9_proof_5 (by decide) (fun c23 => ?_) (fun c23 => ?_)
    · replace h := gx_t c23 h
      refine lv_iconst (v := 0) hx hb dX9_proof_12 (by decide) ?_
      exact hj13_4 (0 : Int32) _ _ _ h hP hD hS (lv_sub hl [0, 1, 2, 3] rfl)
    · replace h := gx_f c23 h
      refine lv_iconst (v := 1) hx hb dX9_proof_8 (by decide) ?_
      refine lv_goto (tgt := 13) hx hb dX9_proof_9 (by decide) ?_
      exact hj13_4 (1 : Int32) _ _ _ h hP hD hS (lv_sub hl [0, 1, 2, 3] rfl)
  · replace ew : u2 = w' := ew
    subst ew
    refine cX_vS (As := [.int p1]) (rest := []) ⟨hx, hb, hml, hown, hts⟩ (kx_X9_needSection l hl0 D cI cZ ad u p1 hc3) (va_cwS 1 hts (gwS mw_595 mw_596 mw_48 mw_597) rfl rfl rfl (by decide +kernel) ⟨Nat.le_of_ble_eq_true rfl, Nat.le_of_ble_eq_true rfl⟩) hK hP hD hS hA hZ rfl hl.1 rfl (Nat.le_of_ble_eq_true rfl) dX9_proof_1 ⟨Nat.le_of_ble_eq_true rfl, Nat.le_of_ble_eq_true rfl⟩ (fun ce q9 H locs hP hD hS h1 h2 h3 => ?_)
    exact cX_back hAe hQ hout hlocks hK rfl hP hD hS h1 h2 h3 (Nat.le_refl _) (Nat.le_refl _)
