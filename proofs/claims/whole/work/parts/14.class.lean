def rX9_isFined : Room := { frames := 3, cells := 0, slots := 0, locals := 65 }
set_option maxHeartbeats 4000000 in
set_option maxRecDepth 100000 in
theorem k_X9_isFined (l : Launch) (D : va_G) (cI cZ : ClassId) (ad : Nat → Nat) (u : GS) (p0 : Int32) (p1 : Int32) (p2 : Int32) {r : Int32} {w' : GS} (h : g_X9_isFined u p0 p1 p2 = some (.inl r, w')) : MI l yX9_isFined (wm yX9_isFined cX9_isFined 4 (some .boolean)) rX9_isFined D [(cI, .int), (cZ, .boolean)] (wC cI cZ ad u) (wC cI cZ ad w') [.ref (ad 0), .int p0, .int p1, .int p2] r := by
  intro sz
  refine Met.ofW (cc := cX9_isFined) (maxL := 4) (ret := (some .boolean)) (by decide) rfl ?_
  intro p e s m args below meth c s₁ B hml hv
  obtain ⟨rfl, hsz, hP, hK, hD0, hZ⟩ := hv
  have hx := B.exec
  have hb := B.bytes
  have hr := B.returns
  have hts : ∀ w ∈ Wall, w.before _ s = true := fun w hw => atoms_spec (ws := wm yX9_isFined cX9_isFined 4 (some .boolean)) B.pre w (List.mem_cons_of_mem _ hw)
  have hown : s.vm.findClass RX9 = some m.cls := findClass_of_methodNamed B.named
  have hlocks := B.notSynchronized
  subst hsz
  have hD := hD0.self (sz := s.heap.size)
  generalize hAe : va_A (wC cI cZ ad u) s.heap.size = A at hD hZ ⊢
  have hA : ∀ q : Nat, s.heap.size ≤ q → A q := fun q h => by rw [← hAe]; exact Or.inr h
  have hS : va_S A s.heap s.heap [] := va_S.rf
  have hf7 := hts _ mw_304
  have hf72 := hts _ mw_313
  have hl := lv_entry ([.ref (ad 0), .int p0, .int p1, .int p2]) (n := 4) (Nat.le_of_ble_eq_true rfl)
  rw [lg_entry_eq]
  generalize (lg_sl ([.ref (ad 0), .int p0, .int p1, .int p2]) ++ List.replicate (4 - (lg_sl ([.ref (ad 0), .int p0, .int p1, .int p2])).length) Slot.unset).toArray = ls at hl ⊢
  replace hl : lv_has ls 4 [(0, .ref (ad 0)), (1, .int p0), (2, .int p1), (3, .int p2)] := hl
  refine w_gen (fun Q hQ => ?_)
  refine lv_iload_n hx hb dX9_isFined_0 rfl (lv_at hl 2 rfl) ?_
  obtain ⟨y1, u2, hc3, h⟩ := gx_xr h
  refine cc_vS (As := [.int p1]) (rest := []) ⟨hx, hb, hml, hown, hts⟩ (k_X9_needSection l D cI cZ ad u p1 hc3) (va_cwS 1 hts (gwS mw_595 mw_596 mw_48 mw_597) rfl rfl rfl (by decide +kernel) ⟨Nat.le_of_ble_eq_true rfl, Nat.le_of_ble_eq_true rfl⟩) hK hP hD hS hA hZ rfl hl.1 rfl (Nat.le_of_ble_eq_true rfl) dX9_isFined_1 ⟨Nat.zero_le _, Nat.zero_le _⟩ (fun H locs hP hD hS => ?_)
  refine lv_iload_n hx hb dX9_isFined_4 rfl (lv_at hl 1 rfl) ?_
  obtain ⟨j13_4, ej13_4, h⟩ := gx_let h
  have hj13_4 : ∀ (z0_13 : Int32) (H : Heap) (locs : List Loc) (ls : Array Slot), j13_4 z0_13 = some (.inl r, w') → va_P D vwCl (wC cI cZ ad u2) H → va_D A (wC cI cZ ad u2) → va_S A s.heap H locs → lv_has ls 4 [(0, .ref (ad 0)), (1, .int p0), (2, .int p1), (3, .int p2)] → W p l e rX9_isFined s m ([.ref (ad 0), .int p0, .int p1, .int p2] : List Value).toArray below meth c H locs 0 0 Q (F0 m 13 ls [.int z0_13]) := by
    intro z0_13 H locs ls h hP hD hS hl
    subst ej13_4
    obtain ⟨y5, u6, hc7, h⟩ := gx_xr h
    refine cc_vS (As := [.int z0_13]) (rest := []) ⟨hx, hb, hml, hown, hts⟩ (k_X9_needArgument l D cI cZ ad u2 z0_13 hc7) (va_cwS 1 hts (gwS mw_392 mw_393 mw_48 mw_394) rfl rfl rfl (by decide +kernel) ⟨Nat.le_of_ble_eq_true rfl, Nat.le_of_ble_eq_true rfl⟩) hK hP hD hS hA hZ rfl hl.1 rfl (Nat.le_of_ble_eq_true rfl) dX9_isFined_13 ⟨Nat.zero_le _, Nat.zero_le _⟩ (fun H locs hP hD hS => ?_)
    refine lv_iload_n hx hb dX9_isFined_16 rfl (lv_at hl 3 rfl) ?_
    refine lv_iconst (v := 0) hx hb dX9_isFined_17 (by decide) ?_
    refine lv_sipush (v := 250) hx hb dX9_isFined_18 (by decide) ?_
    obtain ⟨y8, hc9, h⟩ := gx_bind h
    refine cc_iS (As := [.int p2, .int (0 : Int32), .int (250 : Int32)]) (rest := []) ⟨hx, hb, hml, hown, hts⟩ (k_X9_isWithin l D cI cZ ad u6 p2 (0 : Int32) (250 : Int32) hc9) (va_cwS 3 hts (gwS mw_391 mw_273 mw_48 mw_274) rfl rfl rfl (by decide +kernel) ⟨Nat.le_of_ble_eq_true rfl, Nat.le_of_ble_eq_true rfl⟩) hK hP hD hS hA hZ rfl hl.1 rfl (Nat.le_of_ble_eq_true rfl) dX9_isFined_21 ⟨Nat.zero_le _, Nat.zero_le _⟩ (fun H locs hP hD hS => ?_)
    obtain ⟨y10, u11, hc12, h⟩ := gx_xr h
    refine cc_vS (As := [.int y8]) (rest := []) ⟨hx, hb, hml, hown, hts⟩ (k_X9_needArgument l D cI cZ ad u6 y8 hc12) (va_cwS 1 hts (gwS mw_392 mw_393 mw_48 mw_394) rfl rfl rfl (by decide +kernel) ⟨Nat.le_of_ble_eq_true rfl, Nat.le_of_ble_eq_true rfl⟩) hK hP hD hS hA hZ rfl hl.1 rfl (Nat.le_of_ble_eq_true rfl) dX9_isFined_24 ⟨Nat.zero_le _, Nat.zero_le _⟩ (fun H locs hP hD hS => ?_)
    refine lv_iload_n hx hb dX9_isFined_27 rfl (lv_at hl 1 rfl) ?_
    refine lv_aload_n hx hb dX9_isFined_28 rfl (lv_at hl 0 rfl) ?_
    refine va_get (D := D) (ci := 9) (v := .int (c_minute u11)) (C := RX9) (T := TX9) (N := 10) hx hb hts iX9 hown hK hP 0 rfl rfl 0 (by decide) hf7 (fun _ h9 => h9) rfl dX9_isFined_29 ?_
    obtain ⟨y13, hc14, h⟩ := gx_bind h
    refine cc_iS (As := [.int p0, .int (c_minute u11)]) (rest := []) ⟨hx, hb, hml, hown, hts⟩ (k_X5_isKept l D cI cZ ad u11 p0 (c_minute u11) hc14) (va_cwS 2 hts (gwS mw_819 mw_820 mw_57 mw_821) rfl rfl rfl (by decide +kernel) ⟨Nat.le_of_ble_eq_true rfl, Nat.le_of_ble_eq_true rfl⟩) hK hP hD hS hA hZ rfl hl.1 rfl (Nat.le_of_ble_eq_true rfl) dX9_isFined_32 ⟨Nat.zero_le _, Nat.zero_le _⟩ (fun H locs hP hD hS => ?_)
    obtain ⟨y15, u16, hc17, h⟩ := gx_xr h
    refine cc_vS (As := [.int y13]) (rest := []) ⟨hx, hb, hml, hown, hts⟩ (k_X9_needState l D cI cZ ad u11 y13 hc17) (va_cwS 1 hts (gwS mw_471 mw_472 mw_48 mw_473) rfl rfl rfl (by decide +kernel) ⟨Nat.le_of_ble_eq_true rfl, Nat.le_of_ble_eq_true rfl⟩) hK hP hD hS hA hZ rfl hl.1 rfl (Nat.le_of_ble_eq_true rfl) dX9_isFined_35 ⟨Nat.zero_le _, Nat.zero_le _⟩ (fun H locs hP hD hS => ?_)
    refine lv_iload_n hx hb dX9_isFined_38 rfl (lv_at hl 3 rfl) ?_
    refine lv_aload_n hx hb dX9_isFined_39 rfl (lv_at hl 0 rfl) ?_
    refine va_get (D := D) (ci := 9) (v := .ref (ad 9)) (C := RX9) (T := TX9) (N := 10) hx hb hts iX9 hown hK hP 0 rfl rfl 9 (by decide) hf72 (fun _ h9 => h9) rfl dX9_isFined_40 ?_
    refine lv_iload_n hx hb dX9_isFined_43 rfl (lv_at hl 1 rfl) ?_
    refine lv_iload_n hx hb dX9_isFined_44 rfl (lv_at hl 2 rfl) ?_
    obtain ⟨y18, hc19, h⟩ := gx_bind h
    refine cc_iV (As := [.int p0, .int p1]) (rest := [.int p2]) ⟨hx, hb, hml, hown, hts⟩ (k_X5_speedSign l D cI cZ ad u16 p0 p1 hc19) (cwV 2 hts (gwV mw_823 mw_824 mw_825 mw_57 mw_826) rfl rfl rfl (by decide +kernel) ⟨Nat.le_of_ble_eq_true rfl, Nat.le_of_ble_eq_true rfl⟩) hK hP hD hS hA hZ (ci := 5) (q0 := 9) rfl rfl rfl hl.1 rfl (Nat.le_of_ble_eq_true rfl) dX9_isFined_45 ⟨Nat.zero_le _, Nat.zero_le _⟩ (fun H locs hP hD hS => ?_)
    refine lv_isub hx hb dX9_isFined_48 ?_
    refine lv_bipush (v := 10) hx hb dX9_isFined_49 (by decide) ?_
    refine lv_icmp_lt (tgt := 58) hx hb dX9_isFined_51 (by decide) (fun c20 => ?_) (fun c20 => ?_)
    · replace h := gx_t c20 h
      refine lv_iconst (v := 0) hx hb dX9_isFined_58 (by decide) ?_
      cases h
      exact cc_ret hx hb hr rfl hQ hK hP hD hS rfl dX9_isFined_59 hlocks
    · replace h := gx_f c20 h
      refine lv_iconst (v := 1) hx hb dX9_isFined_54 (by decide) ?_
      refine lv_goto (tgt := 59) hx hb dX9_isFined_55 (by decide) ?_
      cases h
      exact cc_ret hx hb hr rfl hQ hK hP hD hS rfl dX9_isFined_59 hlocks
  refine lv_if_lt (tgt := 12) hx hb dX9_isFined_5 (by decide) (fun c21 => ?_) (fun c21 => ?_)
  · replace h := gx_t c21 h
    refine lv_iconst (v := 0) hx hb dX9_isFined_12 (by decide) ?_
    exact hj13_4 (0 : Int32) _ _ _ h hP hD hS (lv_sub hl [0, 1, 2, 3] rfl)
  · replace h := gx_f c21 h
    refine lv_iconst (v := 1) hx hb dX9_isFined_8 (by decide) ?_
    refine lv_goto (tgt := 13) hx hb dX9_isFined_9 (by decide) ?_
    exact hj13_4 (1 : Int32) _ _ _ h hP hD hS (lv_sub hl [0, 1, 2, 3] rfl)

def rx_X9_isFined : Room := { frames := 8, cells := 1, slots := 6, locals := 130 }
set_option maxHeartbeats 4000000 in
set_option maxRecDepth 100000 in
theorem kx_X9_isFined (l : Launch) (hl0 : l.stackTraces = false) (D : va_G) (cI cZ : ClassId) (ad : Nat → Nat) (u : GS) (p0 : Int32) (p1 : Int32) (p2 : Int32) {E : String} {w' : GS} (h : g_X9_isFined u p0 p1 p2 = some (.inr E, w')) : XI l yX9_isFined (wm yX9_isFined cX9_isFined 4 (some .boolean)) rx_X9_isFined D [(cI, .int), (cZ, .boolean)] (wC cI cZ ad u) (wC cI cZ ad w') [.ref (ad 0), .int p0, .int p1, .int p2] E := by
  intro sz
  refine vx_ofW (cc := cX9_isFined) (maxL := 4) (ret := (some .boolean)) (by decide) rfl ?_
  intro p e s m args below meth c s₁ B hml hout hv
  obtain ⟨rfl, hsz, hP, hK, hD0, hZ⟩ := hv
  have hx := B.exec
  have hb := B.bytes
  have hts : ∀ w ∈ Wall, w.before _ s = true := fun w hw => atoms_spec (ws := wm yX9_isFined cX9_isFined 4 (some .boolean)) B.pre w (List.mem_cons_of_mem _ hw)
  have hown : s.vm.findClass RX9 = some m.cls := findClass_of_methodNamed B.named
  have hlocks := B.notSynchronized
  subst hsz
  have hD := hD0.self (sz := s.heap.size)
  generalize hAe : va_A (wC cI cZ ad u) s.heap.size = A at hD hZ
  have hA : ∀ q : Nat, s.heap.size ≤ q → A q := fun q h => by rw [← hAe]; exact Or.inr h
  have hS : va_S A s.heap s.heap [] := va_S.rf
  have hf7 := hts _ mw_304
  have hf72 := hts _ mw_313
  have hl := lv_entry ([.ref (ad 0), .int p0, .int p1, .int p2]) (n := 4) (Nat.le_of_ble_eq_true rfl)
  rw [lg_entry_eq]
  generalize (lg_sl ([.ref (ad 0), .int p0, .int p1, .int p2]) ++ List.replicate (4 - (lg_sl ([.ref (ad 0), .int p0, .int p1, .int p2])).length) Slot.unset).toArray = ls at hl ⊢
  replace hl : lv_has ls 4 [(0, .ref (ad 0)), (1, .int p0), (2, .int p1), (3, .int p2)] := hl
  refine w_gen (fun Q hQ => ?_)
  refine lv_iload_n hx hb dX9_isFined_0 rfl (lv_at hl 2 rfl) ?_
  rcases gx_xx h with ⟨y1, u2, hc3, h⟩ | ⟨u2, hc3, ew⟩
  · refine cc_vS (As := [.int p1]) (rest := []) ⟨hx, hb, hml, hown, hts⟩ (k_X9_needSection l D cI cZ ad u p1 hc3) (va_cwS 1 hts (gwS mw_595 mw_596 mw_48 mw_597) rfl rfl rfl (by decide +kernel) ⟨Nat.le_of_ble_eq_true rfl, Nat.le_of_ble_eq_true rfl⟩) hK hP hD hS hA hZ rfl hl.1 rfl (Nat.le_of_ble_eq_true rfl) dX9_isFined_1 ⟨Nat.zero_le _, Nat.zero_le _⟩ (fun H locs hP hD hS => ?_)
    refine lv_iload_n hx hb dX9_isFined_4 rfl (lv_at hl 1 rfl) ?_
    obtain ⟨j13_4, ej13_4, h⟩ := gx_let h
    have hj13_4 : ∀ (z0_13 : Int32) (H : Heap) (locs : List Loc) (ls : Array Slot), j13_4 z0_13 = some (.inr E, w') → va_P D vwCl (wC cI cZ ad u2) H → va_D A (wC cI cZ ad u2) → va_S A s.heap H locs → lv_has ls 4 [(0, .ref (ad 0)), (1, .int p0), (2, .int p1), (3, .int p2)] → W p l e rx_X9_isFined s m ([.ref (ad 0), .int p0, .int p1, .int p2] : List Value).toArray below meth c H locs 0 0 Q (F0 m 13 ls [.int z0_13]) := by
      intro z0_13 H locs ls h hP hD hS hl
      subst ej13_4
      rcases gx_xx h with ⟨y5, u6, hc7, h⟩ | ⟨u6, hc7, ew⟩
      · refine cc_vS (As := [.int z0_13]) (rest := []) ⟨hx, hb, hml, hown, hts⟩ (k_X9_needArgument l D cI cZ ad u2 z0_13 hc7) (va_cwS 1 hts (gwS mw_392 mw_393 mw_48 mw_394) rfl rfl rfl (by decide +kernel) ⟨Nat.le_of_ble_eq_true rfl, Nat.le_of_ble_eq_true rfl⟩) hK hP hD hS hA hZ rfl hl.1 rfl (Nat.le_of_ble_eq_true rfl) dX9_isFined_13 ⟨Nat.zero_le _, Nat.zero_le _⟩ (fun H locs hP hD hS => ?_)
        refine lv_iload_n hx hb dX9_isFined_16 rfl (lv_at hl 3 rfl) ?_
        refine lv_iconst (v := 0) hx hb dX9_isFined_17 (by decide) ?_
        refine lv_sipush (v := 250) hx hb dX9_isFined_18 (by decide) ?_
        obtain ⟨y8, hc9, h⟩ := gx_bind h
        refine cc_iS (As := [.int p2, .int (0 : Int32), .int (250 : Int32)]) (rest := []) ⟨hx, hb, hml, hown, hts⟩ (k_X9_isWithin l D cI cZ ad u6 p2 (0 : Int32) (250 : Int32) hc9) (va_cwS 3 hts (gwS mw_391 mw_273 mw_48 mw_274) rfl rfl rfl (by decide +kernel) ⟨Nat.le_of_ble_eq_true rfl, Nat.le_of_ble_eq_true rfl⟩) hK hP hD hS hA hZ rfl hl.1 rfl (Nat.le_of_ble_eq_true rfl) dX9_isFined_21 ⟨Nat.zero_le _, Nat.zero_le _⟩ (fun H locs hP hD hS => ?_)
        rcases gx_xx h with ⟨y10, u11, hc12, h⟩ | ⟨u11, hc12, ew⟩
        · refine cc_vS (As := [.int y8]) (rest := []) ⟨hx, hb, hml, hown, hts⟩ (k_X9_needArgument l D cI cZ ad u6 y8 hc12) (va_cwS 1 hts (gwS mw_392 mw_393 mw_48 mw_394) rfl rfl rfl (by decide +kernel) ⟨Nat.le_of_ble_eq_true rfl, Nat.le_of_ble_eq_true rfl⟩) hK hP hD hS hA hZ rfl hl.1 rfl (Nat.le_of_ble_eq_true rfl) dX9_isFined_24 ⟨Nat.zero_le _, Nat.zero_le _⟩ (fun H locs hP hD hS => ?_)
          refine lv_iload_n hx hb dX9_isFined_27 rfl (lv_at hl 1 rfl) ?_
          refine lv_aload_n hx hb dX9_isFined_28 rfl (lv_at hl 0 rfl) ?_
          refine va_get (D := D) (ci := 9) (v := .int (c_minute u11)) (C := RX9) (T := TX9) (N := 10) hx hb hts iX9 hown hK hP 0 rfl rfl 0 (by decide) hf7 (fun _ h9 => h9) rfl dX9_isFined_29 ?_
          obtain ⟨y13, hc14, h⟩ := gx_bind h
          refine cc_iS (As := [.int p0, .int (c_minute u11)]) (rest := []) ⟨hx, hb, hml, hown, hts⟩ (k_X5_isKept l D cI cZ ad u11 p0 (c_minute u11) hc14) (va_cwS 2 hts (gwS mw_819 mw_820 mw_57 mw_821) rfl rfl rfl (by decide +kernel) ⟨Nat.le_of_ble_eq_true rfl, Nat.le_of_ble_eq_true rfl⟩) hK hP hD hS hA hZ rfl hl.1 rfl (Nat.le_of_ble_eq_true rfl) dX9_isFined_32 ⟨Nat.zero_le _, Nat.zero_le _⟩ (fun H locs hP hD hS => ?_)
          rcases gx_xx h with ⟨y15, u16, hc17, h⟩ | ⟨u16, hc17, ew⟩
          · refine cc_vS (As := [.int y13]) (rest := []) ⟨hx, hb, hml, hown, hts⟩ (k_X9_needState l D cI cZ ad u11 y13 hc17) (va_cwS 1 hts (gwS mw_471 mw_472 mw_48 mw_473) rfl rfl rfl (by decide +kernel) ⟨Nat.le_of_ble_eq_true rfl, Nat.le_of_ble_eq_true rfl⟩) hK hP hD hS hA hZ rfl hl.1 rfl (Nat.le_of_ble_eq_true rfl) dX9_isFined_35 ⟨Nat.zero_le _, Nat.zero_le _⟩ (fun H locs hP hD hS => ?_)
            refine lv_iload_n hx hb dX9_isFined_38 rfl (lv_at hl 3 rfl) ?_
            refine lv_aload_n hx hb dX9_isFined_39 rfl (lv_at hl 0 rfl) ?_
            refine va_get (D := D) (ci := 9) (v := .ref (ad 9)) (C := RX9) (T := TX9) (N := 10) hx hb hts iX9 hown hK hP 0 rfl rfl 9 (by decide) hf72 (fun _ h9 => h9) rfl dX9_isFined_40 ?_
            refine lv_iload_n hx hb dX9_isFined_43 rfl (lv_at hl 1 rfl) ?_
            refine lv_iload_n hx hb dX9_isFined_44 rfl (lv_at hl 2 rfl) ?_
            obtain ⟨y18, hc19, h⟩ := gx_bind h
            refine cc_iV (As := [.int p0, .int p1]) (rest := [.int p2]) ⟨hx, hb, hml, hown, hts⟩ (k_X5_speedSign l D cI cZ ad u16 p0 p1 hc19) (cwV 2 hts (gwV mw_823 mw_824 mw_825 mw_57 mw_826) rfl rfl rfl (by decide +kernel) ⟨Nat.le_of_ble_eq_true rfl, Nat.le_of_ble_eq_true rfl⟩) hK hP hD hS hA hZ (ci := 5) (q0 := 9) rfl rfl rfl hl.1 rfl (Nat.le_of_ble_eq_true rfl) dX9_isFined_45 ⟨Nat.zero_le _, Nat.zero_le _⟩ (fun H locs hP hD hS => ?_)
            refine lv_isub hx hb dX9_isFined_48 ?_
            refine lv_bipush (v := 10) hx hb dX9_isFined_49 (by decide) ?_
            refine lv_icmp_lt (tgt := 58) hx hb dX9_isFined_51 (by decide) (fun c20 => ?_) (fun c20 => ?_)
            · replace h := gx_t c20 h
              refine lv_iconst (v := 0) hx hb dX9_isFined_58 (by decide) ?_
              cases h
            · replace h := gx_f c20 h
              refine lv_iconst (v := 1) hx hb dX9_isFined_54 (by decide) ?_
              refine lv_goto (tgt := 59) hx hb dX9_isFined_55 (by decide) ?_
              cases h
          · replace ew : u16 = w' := ew
            subst ew
            refine cX_vS (As := [.int y13]) (rest := []) ⟨hx, hb, hml, hown, hts⟩ (kx_X9_needState l hl0 D cI cZ ad u11 y13 hc17) (va_cwS 1 hts (gwS mw_471 mw_472 mw_48 mw_473) rfl rfl rfl (by decide +kernel) ⟨Nat.le_of_ble_eq_true rfl, Nat.le_of_ble_eq_true rfl⟩) hK hP hD hS hA hZ rfl hl.1 rfl (Nat.le_of_ble_eq_true rfl) dX9_isFined_35 ⟨Nat.le_of_ble_eq_true rfl, Nat.le_of_ble_eq_true rfl⟩ (fun ce q9 H locs hP hD hS h1 h2 h3 => ?_)
            exact cX_back hAe hQ hout hlocks hK rfl hP hD hS h1 h2 h3 (Nat.le_refl _) (Nat.le_refl _)
        · replace ew : u11 = w' := ew
          subst ew
          refine cX_vS (As := [.int y8]) (rest := []) ⟨hx, hb, hml, hown, hts⟩ (kx_X9_needArgument l hl0 D cI cZ ad u6 y8 hc12) (va_cwS 1 hts (gwS mw_392 mw_393 mw_48 mw_394) rfl rfl rfl (by decide +kernel) ⟨Nat.le_of_ble_eq_true rfl, Nat.le_of_ble_eq_true rfl⟩) hK hP hD hS hA hZ rfl hl.1 rfl (Nat.le_of_ble_eq_true rfl) dX9_isFined_24 ⟨Nat.le_of_ble_eq_true rfl, Nat.le_of_ble_eq_true rfl⟩ (fun ce q9 H locs hP hD hS h1 h2 h3 => ?_)
          exact cX_back hAe hQ hout hlocks hK rfl hP hD hS h1 h2 h3 (Nat.le_refl _) (Nat.le_refl _)
      · replace ew : u6 = w' := ew
        subst ew
        refine cX_vS (As := [.int z0_13]) (rest := []) ⟨hx, hb, hml, hown, hts⟩ (kx_X9_needArgument l hl0 D cI cZ ad u2 z0_13 hc7) (va_cwS 1 hts (gwS mw_392 mw_393 mw_48 mw_394) rfl rfl rfl (by decide +kernel) ⟨Nat.le_of_ble_eq_true rfl, Nat.le_of_ble_eq_true rfl⟩) hK hP hD hS hA hZ rfl hl.1 rfl (Nat.le_of_ble_eq_true rfl) dX9_isFined_13 ⟨Nat.le_of_ble_eq_true rfl, Nat.le_of_ble_eq_true rfl⟩ (fun ce q9 H locs hP hD hS h1 h2 h3 => ?_)
        exact cX_back hAe hQ hout hlocks hK rfl hP hD hS h1 h2 h3 (Nat.le_refl _) (Nat.le_refl _)
    refine lv_if_lt (tgt := 12) hx hb dX9_isFined_5 (by decide) (fun c21 => ?_) (fun c21 => ?_)
    · replace h := gx_t c21 h
      refine lv_iconst (v := 0) hx hb dX9_isFined_12 (by decide) ?_
      exact hj13_4 (0 : Int32) _ _ _ h hP hD hS (lv_sub hl [0, 1, 2, 3] rfl)
    · replace h := gx_f c21 h
      refine lv_iconst (v := 1) hx hb dX9_isFined_8 (by decide) ?_
      refine lv_goto (tgt := 13) hx hb dX9_isFined_9 (by decide) ?_
      exact hj13_4 (1 : Int32) _ _ _ h hP hD hS (lv_sub hl [0, 1, 2, 3] rfl)
  · replace ew : u2 = w' := ew
    subst ew
    refine cX_vS (As := [.int p1]) (rest := []) ⟨hx, hb, hml, hown, hts⟩ (kx_X9_needSection l hl0 D cI cZ ad u p1 hc3) (va_cwS 1 hts (gwS mw_595 mw_596 mw_48 mw_597) rfl rfl rfl (by decide +kernel) ⟨Nat.le_of_ble_eq_true rfl, Nat.le_of_ble_eq_true rfl⟩) hK hP hD hS hA hZ rfl hl.1 rfl (Nat.le_of_ble_eq_true rfl) dX9_isFined_1 ⟨Nat.le_of_ble_eq_true rfl, Nat.le_of_ble_eq_true rfl⟩ (fun ce q9 H locs hP hD hS h1 h2 h3 => ?_)
    exact cX_back hAe hQ hout hlocks hK rfl hP hD hS h1 h2 h3 (Nat.le_refl _) (Nat.le_refl _)
