def rX9_pass : Room := { frames := 6, cells := 0, slots := 0, locals := 140 }
set_option maxHeartbeats 4000000 in
set_option maxRecDepth 100000 in
theorem k_X9_pass (l : Launch) (D : va_G) (cI cZ : ClassId) (ad : Nat → Nat) (u : GS) (p0 : Int32) {r : Int32} {w' : GS} (h : g_X9_pass u p0 = some (.inl r, w')) : MI l yX9_pass (wm yX9_pass cX9_pass 3 (some .int)) rX9_pass D [(cI, .int), (cZ, .boolean)] (wC cI cZ ad u) (wC cI cZ ad w') [.ref (ad 0), .int p0] r := by
  intro sz
  refine Met.ofW (cc := cX9_pass) (maxL := 3) (ret := (some .int)) (by decide) rfl ?_
  intro p e s m args below meth c s₁ B hml hv
  obtain ⟨rfl, hsz, hP, hK, hD0, hZ⟩ := hv
  have hx := B.exec
  have hb := B.bytes
  have hr := B.returns
  have hts : ∀ w ∈ Wall, w.before _ s = true := fun w hw => atoms_spec (ws := wm yX9_pass cX9_pass 3 (some .int)) B.pre w (List.mem_cons_of_mem _ hw)
  have hown : s.vm.findClass RX9 = some m.cls := findClass_of_methodNamed B.named
  have hlocks := B.notSynchronized
  subst hsz
  have hD := hD0.self (sz := s.heap.size)
  generalize hAe : va_A (wC cI cZ ad u) s.heap.size = A at hD hZ ⊢
  have hA : ∀ q : Nat, s.heap.size ≤ q → A q := fun q h => by rw [← hAe]; exact Or.inr h
  have hS : va_S A s.heap s.heap [] := va_S.rf
  have hf7 := hts _ mw_304
  have hl := lv_entry ([.ref (ad 0), .int p0]) (n := 3) (Nat.le_of_ble_eq_true rfl)
  rw [lg_entry_eq]
  generalize (lg_sl ([.ref (ad 0), .int p0]) ++ List.replicate (3 - (lg_sl ([.ref (ad 0), .int p0])).length) Slot.unset).toArray = ls at hl ⊢
  replace hl : lv_has ls 3 [(0, .ref (ad 0)), (1, .int p0)] := hl
  refine w_gen (fun Q hQ => ?_)
  refine lv_iload_n hx hb dX9_pass_0 rfl (lv_at hl 1 rfl) ?_
  refine lv_iconst (v := 1) hx hb dX9_pass_1 (by decide) ?_
  refine lv_bipush (v := 60) hx hb dX9_pass_2 (by decide) ?_
  obtain ⟨y1, hc2, h⟩ := gx_bind h
  refine cc_iS (As := [.int p0, .int (1 : Int32), .int (60 : Int32)]) (rest := []) ⟨hx, hb, hml, hown, hts⟩ (k_X9_isWithin l D cI cZ ad u p0 (1 : Int32) (60 : Int32) hc2) (va_cwS 3 hts (gwS mw_391 mw_273 mw_48 mw_274) rfl rfl rfl (by decide +kernel) ⟨Nat.le_of_ble_eq_true rfl, Nat.le_of_ble_eq_true rfl⟩) hK hP hD hS hA hZ rfl hl.1 rfl (Nat.le_of_ble_eq_true rfl) dX9_pass_4 ⟨Nat.zero_le _, Nat.zero_le _⟩ (fun H locs hP hD hS => ?_)
  obtain ⟨y3, u4, hc5, h⟩ := gx_xr h
  refine cc_vS (As := [.int y1]) (rest := []) ⟨hx, hb, hml, hown, hts⟩ (k_X9_needArgument l D cI cZ ad u y1 hc5) (va_cwS 1 hts (gwS mw_392 mw_393 mw_48 mw_394) rfl rfl rfl (by decide +kernel) ⟨Nat.le_of_ble_eq_true rfl, Nat.le_of_ble_eq_true rfl⟩) hK hP hD hS hA hZ rfl hl.1 rfl (Nat.le_of_ble_eq_true rfl) dX9_pass_7 ⟨Nat.zero_le _, Nat.zero_le _⟩ (fun H locs hP hD hS => ?_)
  refine lv_aload_n hx hb dX9_pass_10 rfl (lv_at hl 0 rfl) ?_
  refine va_get (D := D) (ci := 9) (v := .int (c_minute u4)) (C := RX9) (T := TX9) (N := 10) hx hb hts iX9 hown hK hP 0 rfl rfl 0 (by decide) hf7 (fun _ h9 => h9) rfl dX9_pass_11 ?_
  refine lv_iload_n hx hb dX9_pass_14 rfl (lv_at hl 1 rfl) ?_
  refine lv_iadd hx hb dX9_pass_15 ?_
  refine lv_sipush (v := 600) hx hb dX9_pass_16 (by decide) ?_
  obtain ⟨j27_6, ej27_6, h⟩ := gx_let h
  have hj27_6 : ∀ (z0_27 : Int32) (H : Heap) (locs : List Loc) (ls : Array Slot), j27_6 z0_27 = some (.inl r, w') → va_P D vwCl (wC cI cZ ad u4) H → va_D A (wC cI cZ ad u4) → va_S A s.heap H locs → lv_has ls 3 [(0, .ref (ad 0)), (1, .int p0)] → W p l e rX9_pass s m ([.ref (ad 0), .int p0] : List Value).toArray below meth c H locs 0 0 Q (F0 m 27 ls [.int z0_27]) := by
    intro z0_27 H locs ls h hP hD hS hl
    subst ej27_6
    obtain ⟨y7, u8, hc9, h⟩ := gx_xr h
    refine cc_vS (As := [.int z0_27]) (rest := []) ⟨hx, hb, hml, hown, hts⟩ (k_X9_needState l D cI cZ ad u4 z0_27 hc9) (va_cwS 1 hts (gwS mw_471 mw_472 mw_48 mw_473) rfl rfl rfl (by decide +kernel) ⟨Nat.le_of_ble_eq_true rfl, Nat.le_of_ble_eq_true rfl⟩) hK hP hD hS hA hZ rfl hl.1 rfl (Nat.le_of_ble_eq_true rfl) dX9_pass_27 ⟨Nat.zero_le _, Nat.zero_le _⟩ (fun H locs hP hD hS => ?_)
    refine lv_iconst (v := 0) hx hb dX9_pass_30 (by decide) ?_
    refine lv_istore_n (lv' := [(2, .int (0 : Int32)), (0, .ref (ad 0)), (1, .int p0)]) hx hb dX9_pass_31 rfl hl (by decide) rfl (fun ls hl => ?_)
    have hL32 : ∀ (k : GS → Option (g_X × GS)) (hk : ∀ (w32 : GS) (H : Heap) (locs : List Loc) (ls : Array Slot), k w32 = some (.inl r, w') → va_P D vwCl (wC cI cZ ad w32) H → va_D A (wC cI cZ ad w32) → va_S A s.heap H locs → lv_has ls 3 [(0, .ref (ad 0))] → W p l e rX9_pass s m ([.ref (ad 0), .int p0] : List Value).toArray below meth c H locs 0 0 Q (F0 m 47 ls [])) (n : Nat) (x2_32 : Int32) (w32 : GS) (H : Heap) (locs : List Loc) (ls : Array Slot), lp_X9_pass_32 p0 k n x2_32 w32 = some (.inl r, w') → va_P D vwCl (wC cI cZ ad w32) H → va_D A (wC cI cZ ad w32) → va_S A s.heap H locs → lv_has ls 3 [(0, .ref (ad 0)), (1, .int p0), (2, .int x2_32)] → W p l e rX9_pass s m ([.ref (ad 0), .int p0] : List Value).toArray below meth c H locs 0 0 Q (F0 m 32 ls []) := by
      intro k hk n
      induction n with
      | zero =>
        intro x2_32 w32 H locs ls h
        rw [lp_X9_pass_32] at h
        cases h
      | succ n ih =>
        intro x2_32 w32 H locs ls h hP hD hS hl
        rw [lp_X9_pass_32] at h
        refine lv_iload_n hx hb dX9_pass_32 rfl (lv_at hl 2 rfl) ?_
        refine lv_iload_n hx hb dX9_pass_33 rfl (lv_at hl 1 rfl) ?_
        refine lv_icmp_ge (tgt := 47) hx hb dX9_pass_34 (by decide) (fun c10 => ?_) (fun c10 => ?_)
        · replace h := gx_t c10 h
          exact hk w32 _ _ _ h hP hD hS (lv_sub hl [0] rfl)
        · replace h := gx_f c10 h
          refine lv_aload_n hx hb dX9_pass_37 rfl (lv_at hl 0 rfl) ?_
          obtain ⟨y11, hc12, h⟩ := gx_bind h
          refine cc_vV (As := []) (rest := []) ⟨hx, hb, hml, hown, hts⟩ (k_X9_comeToNextMinute l D cI cZ ad w32 hc12) (cwV 0 hts (gwV mw_490 mw_492 mw_3 mw_48 mw_493) rfl rfl rfl (by decide +kernel) ⟨Nat.le_of_ble_eq_true rfl, Nat.le_of_ble_eq_true rfl⟩) hK hP hD hS hA hZ (ci := 9) (q0 := 0) rfl rfl rfl hl.1 rfl (Nat.le_of_ble_eq_true rfl) dX9_pass_38 ⟨Nat.zero_le _, Nat.zero_le _⟩ (fun H locs hP hD hS => ?_)
          obtain ⟨v13, ev13, h⟩ := gx_let h
          refine lv_iinc (v := v13) (lv' := [(2, .int v13), (0, .ref (ad 0)), (1, .int p0)]) hx hb dX9_pass_41 hl (k := 2) rfl (by rw [← ev13]; rfl) (by decide) rfl (fun ls hl => ?_)
          refine lv_goto (tgt := 32) hx hb dX9_pass_44 (by decide) ?_
          exact ih v13 y11 _ _ _ h hP hD hS (lv_sub hl [1, 2, 0] rfl)
    refine hL32 _ (fun w32 H locs ls h hP hD hS hl => ?_) FU (0 : Int32) u8 _ _ _ h hP hD hS (lv_sub hl [1, 2, 0] rfl)
    refine lv_aload_n hx hb dX9_pass_47 rfl (lv_at hl 0 rfl) ?_
    refine va_get (D := D) (ci := 9) (v := .int (c_minute w32)) (C := RX9) (T := TX9) (N := 10) hx hb hts iX9 hown hK hP 0 rfl rfl 0 (by decide) hf7 (fun _ h9 => h9) rfl dX9_pass_48 ?_
    cases h
    exact cc_ret hx hb hr rfl hQ hK hP hD hS rfl dX9_pass_51 hlocks
  refine lv_icmp_gt (tgt := 26) hx hb dX9_pass_19 (by decide) (fun c14 => ?_) (fun c14 => ?_)
  · replace h := gx_t c14 h
    refine lv_iconst (v := 0) hx hb dX9_pass_26 (by decide) ?_
    exact hj27_6 (0 : Int32) _ _ _ h hP hD hS (lv_sub hl [0, 1] rfl)
  · replace h := gx_f c14 h
    refine lv_iconst (v := 1) hx hb dX9_pass_22 (by decide) ?_
    refine lv_goto (tgt := 27) hx hb dX9_pass_23 (by decide) ?_
    exact hj27_6 (1 : Int32) _ _ _ h hP hD hS (lv_sub hl [0, 1] rfl)

def rx_X9_pass : Room := { frames := 7, cells := 1, slots := 6, locals := 140 }
set_option maxHeartbeats 4000000 in
set_option maxRecDepth 100000 in
theorem kx_X9_pass (l : Launch) (hl0 : l.stackTraces = false) (D : va_G) (cI cZ : ClassId) (ad : Nat → Nat) (u : GS) (p0 : Int32) {E : String} {w' : GS} (h : g_X9_pass u p0 = some (.inr E, w')) : XI l yX9_pass (wm yX9_pass cX9_pass 3 (some .int)) rx_X9_pass D [(cI, .int), (cZ, .boolean)] (wC cI cZ ad u) (wC cI cZ ad w') [.ref (ad 0), .int p0] E := by
  intro sz
  refine vx_ofW (cc := cX9_pass) (maxL := 3) (ret := (some .int)) (by decide) rfl ?_
  intro p e s m args below meth c s₁ B hml hout hv
  obtain ⟨rfl, hsz, hP, hK, hD0, hZ⟩ := hv
  have hx := B.exec
  have hb := B.bytes
  have hts : ∀ w ∈ Wall, w.before _ s = true := fun w hw => atoms_spec (ws := wm yX9_pass cX9_pass 3 (some .int)) B.pre w (List.mem_cons_of_mem _ hw)
  have hown : s.vm.findClass RX9 = some m.cls := findClass_of_methodNamed B.named
  have hlocks := B.notSynchronized
  subst hsz
  have hD := hD0.self (sz := s.heap.size)
  generalize hAe : va_A (wC cI cZ ad u) s.heap.size = A at hD hZ
  have hA : ∀ q : Nat, s.heap.size ≤ q → A q := fun q h => by rw [← hAe]; exact Or.inr h
  have hS : va_S A s.heap s.heap [] := va_S.rf
  have hf7 := hts _ mw_304
  have hl := lv_entry ([.ref (ad 0), .int p0]) (n := 3) (Nat.le_of_ble_eq_true rfl)
  rw [lg_entry_eq]
  generalize (lg_sl ([.ref (ad 0), .int p0]) ++ List.replicate (3 - (lg_sl ([.ref (ad 0), .int p0])).length) Slot.unset).toArray = ls at hl ⊢
  replace hl : lv_has ls 3 [(0, .ref (ad 0)), (1, .int p0)] := hl
  refine w_gen (fun Q hQ => ?_)
  refine lv_iload_n hx hb dX9_pass_0 rfl (lv_at hl 1 rfl) ?_
  refine lv_iconst (v := 1) hx hb dX9_pass_1 (by decide) ?_
  refine lv_bipush (v := 60) hx hb dX9_pass_2 (by decide) ?_
  obtain ⟨y1, hc2, h⟩ := gx_bind h
  refine cc_iS (As := [.int p0, .int (1 : Int32), .int (60 : Int32)]) (rest := []) ⟨hx, hb, hml, hown, hts⟩ (k_X9_isWithin l D cI cZ ad u p0 (1 : Int32) (60 : Int32) hc2) (va_cwS 3 hts (gwS mw_391 mw_273 mw_48 mw_274) rfl rfl rfl (by decide +kernel) ⟨Nat.le_of_ble_eq_true rfl, Nat.le_of_ble_eq_true rfl⟩) hK hP hD hS hA hZ rfl hl.1 rfl (Nat.le_of_ble_eq_true rfl) dX9_pass_4 ⟨Nat.zero_le _, Nat.zero_le _⟩ (fun H locs hP hD hS => ?_)
  rcases gx_xx h with ⟨y3, u4, hc5, h⟩ | ⟨u4, hc5, ew⟩
  · refine cc_vS (As := [.int y1]) (rest := []) ⟨hx, hb, hml, hown, hts⟩ (k_X9_needArgument l D cI cZ ad u y1 hc5) (va_cwS 1 hts (gwS mw_392 mw_393 mw_48 mw_394) rfl rfl rfl (by decide +kernel) ⟨Nat.le_of_ble_eq_true rfl, Nat.le_of_ble_eq_true rfl⟩) hK hP hD hS hA hZ rfl hl.1 rfl (Nat.le_of_ble_eq_true rfl) dX9_pass_7 ⟨Nat.zero_le _, Nat.zero_le _⟩ (fun H locs hP hD hS => ?_)
    refine lv_aload_n hx hb dX9_pass_10 rfl (lv_at hl 0 rfl) ?_
    refine va_get (D := D) (ci := 9) (v := .int (c_minute u4)) (C := RX9) (T := TX9) (N := 10) hx hb hts iX9 hown hK hP 0 rfl rfl 0 (by decide) hf7 (fun _ h9 => h9) rfl dX9_pass_11 ?_
    refine lv_iload_n hx hb dX9_pass_14 rfl (lv_at hl 1 rfl) ?_
    refine lv_iadd hx hb dX9_pass_15 ?_
    refine lv_sipush (v := 600) hx hb dX9_pass_16 (by decide) ?_
    obtain ⟨j27_6, ej27_6, h⟩ := gx_let h
    have hj27_6 : ∀ (z0_27 : Int32) (H : Heap) (locs : List Loc) (ls : Array Slot), j27_6 z0_27 = some (.inr E, w') → va_P D vwCl (wC cI cZ ad u4) H → va_D A (wC cI cZ ad u4) → va_S A s.heap H locs → lv_has ls 3 [(0, .ref (ad 0)), (1, .int p0)] → W p l e rx_X9_pass s m ([.ref (ad 0), .int p0] : List Value).toArray below meth c H locs 0 0 Q (F0 m 27 ls [.int z0_27]) := by
      intro z0_27 H locs ls h hP hD hS hl
      subst ej27_6
      rcases gx_xx h with ⟨y7, u8, hc9, h⟩ | ⟨u8, hc9, ew⟩
      · refine cc_vS (As := [.int z0_27]) (rest := []) ⟨hx, hb, hml, hown, hts⟩ (k_X9_needState l D cI cZ ad u4 z0_27 hc9) (va_cwS 1 hts (gwS mw_471 mw_472 mw_48 mw_473) rfl rfl rfl (by decide +kernel) ⟨Nat.le_of_ble_eq_true rfl, Nat.le_of_ble_eq_true rfl⟩) hK hP hD hS hA hZ rfl hl.1 rfl (Nat.le_of_ble_eq_true rfl) dX9_pass_27 ⟨Nat.zero_le _, Nat.zero_le _⟩ (fun H locs hP hD hS => ?_)
        refine lv_iconst (v := 0) hx hb dX9_pass_30 (by decide) ?_
        refine lv_istore_n (lv' := [(2, .int (0 : Int32)), (0, .ref (ad 0)), (1, .int p0)]) hx hb dX9_pass_31 rfl hl (by decide) rfl (fun ls hl => ?_)
        have hL32 : ∀ (k : GS → Option (g_X × GS)) (hk : ∀ (w32 : GS) (H : Heap) (locs : List Loc) (ls : Array Slot), k w32 = some (.inr E, w') → va_P D vwCl (wC cI cZ ad w32) H → va_D A (wC cI cZ ad w32) → va_S A s.heap H locs → lv_has ls 3 [(0, .ref (ad 0))] → W p l e rx_X9_pass s m ([.ref (ad 0), .int p0] : List Value).toArray below meth c H locs 0 0 Q (F0 m 47 ls [])) (n : Nat) (x2_32 : Int32) (w32 : GS) (H : Heap) (locs : List Loc) (ls : Array Slot), lp_X9_pass_32 p0 k n x2_32 w32 = some (.inr E, w') → va_P D vwCl (wC cI cZ ad w32) H → va_D A (wC cI cZ ad w32) → va_S A s.heap H locs → lv_has ls 3 [(0, .ref (ad 0)), (1, .int p0), (2, .int x2_32)] → W p l e rx_X9_pass s m ([.ref (ad 0), .int p0] : List Value).toArray below meth c H locs 0 0 Q (F0 m 32 ls []) := by
          intro k hk n
          induction n with
          | zero =>
            intro x2_32 w32 H locs ls h
            rw [lp_X9_pass_32] at h
            cases h
          | succ n ih =>
            intro x2_32 w32 H locs ls h hP hD hS hl
            rw [lp_X9_pass_32] at h
            refine lv_iload_n hx hb dX9_pass_32 rfl (lv_at hl 2 rfl) ?_
            refine lv_iload_n hx hb dX9_pass_33 rfl (lv_at hl 1 rfl) ?_
            refine lv_icmp_ge (tgt := 47) hx hb dX9_pass_34 (by decide) (fun c10 => ?_) (fun c10 => ?_)
            · replace h := gx_t c10 h
              exact hk w32 _ _ _ h hP hD hS (lv_sub hl [0] rfl)
            · replace h := gx_f c10 h
              refine lv_aload_n hx hb dX9_pass_37 rfl (lv_at hl 0 rfl) ?_
              obtain ⟨y11, hc12, h⟩ := gx_bind h
              refine cc_vV (As := []) (rest := []) ⟨hx, hb, hml, hown, hts⟩ (k_X9_comeToNextMinute l D cI cZ ad w32 hc12) (cwV 0 hts (gwV mw_490 mw_492 mw_3 mw_48 mw_493) rfl rfl rfl (by decide +kernel) ⟨Nat.le_of_ble_eq_true rfl, Nat.le_of_ble_eq_true rfl⟩) hK hP hD hS hA hZ (ci := 9) (q0 := 0) rfl rfl rfl hl.1 rfl (Nat.le_of_ble_eq_true rfl) dX9_pass_38 ⟨Nat.zero_le _, Nat.zero_le _⟩ (fun H locs hP hD hS => ?_)
              obtain ⟨v13, ev13, h⟩ := gx_let h
              refine lv_iinc (v := v13) (lv' := [(2, .int v13), (0, .ref (ad 0)), (1, .int p0)]) hx hb dX9_pass_41 hl (k := 2) rfl (by rw [← ev13]; rfl) (by decide) rfl (fun ls hl => ?_)
              refine lv_goto (tgt := 32) hx hb dX9_pass_44 (by decide) ?_
              exact ih v13 y11 _ _ _ h hP hD hS (lv_sub hl [1, 2, 0] rfl)
        refine hL32 _ (fun w32 H locs ls h hP hD hS hl => ?_) FU (0 : Int32) u8 _ _ _ h hP hD hS (lv_sub hl [1, 2, 0] rfl)
        refine lv_aload_n hx hb dX9_pass_47 rfl (lv_at hl 0 rfl) ?_
        refine va_get (D := D) (ci := 9) (v := .int (c_minute w32)) (C := RX9) (T := TX9) (N := 10) hx hb hts iX9 hown hK hP 0 rfl rfl 0 (by decide) hf7 (fun _ h9 => h9) rfl dX9_pass_48 ?_
        cases h
      · replace ew : u8 = w' := ew
        subst ew
        refine cX_vS (As := [.int z0_27]) (rest := []) ⟨hx, hb, hml, hown, hts⟩ (kx_X9_needState l hl0 D cI cZ ad u4 z0_27 hc9) (va_cwS 1 hts (gwS mw_471 mw_472 mw_48 mw_473) rfl rfl rfl (by decide +kernel) ⟨Nat.le_of_ble_eq_true rfl, Nat.le_of_ble_eq_true rfl⟩) hK hP hD hS hA hZ rfl hl.1 rfl (Nat.le_of_ble_eq_true rfl) dX9_pass_27 ⟨Nat.le_of_ble_eq_true rfl, Nat.le_of_ble_eq_true rfl⟩ (fun ce q9 H locs hP hD hS h1 h2 h3 => ?_)
        exact cX_back hAe hQ hout hlocks hK rfl hP hD hS h1 h2 h3 (Nat.le_refl _) (Nat.le_refl _)
    refine lv_icmp_gt (tgt := 26) hx hb dX9_pass_19 (by decide) (fun c14 => ?_) (fun c14 => ?_)
    · replace h := gx_t c14 h
      refine lv_iconst (v := 0) hx hb dX9_pass_26 (by decide) ?_
      exact hj27_6 (0 : Int32) _ _ _ h hP hD hS (lv_sub hl [0, 1] rfl)
    · replace h := gx_f c14 h
      refine lv_iconst (v := 1) hx hb dX9_pass_22 (by decide) ?_
      refine lv_goto (tgt := 27) hx hb dX9_pass_23 (by decide) ?_
      exact hj27_6 (1 : Int32) _ _ _ h hP hD hS (lv_sub hl [0, 1] rfl)
  · replace ew : u4 = w' := ew
    subst ew
    refine cX_vS (As := [.int y1]) (rest := []) ⟨hx, hb, hml, hown, hts⟩ (kx_X9_needArgument l hl0 D cI cZ ad u y1 hc5) (va_cwS 1 hts (gwS mw_392 mw_393 mw_48 mw_394) rfl rfl rfl (by decide +kernel) ⟨Nat.le_of_ble_eq_true rfl, Nat.le_of_ble_eq_true rfl⟩) hK hP hD hS hA hZ rfl hl.1 rfl (Nat.le_of_ble_eq_true rfl) dX9_pass_7 ⟨Nat.le_of_ble_eq_true rfl, Nat.le_of_ble_eq_true rfl⟩ (fun ce q9 H locs hP hD hS h1 h2 h3 => ?_)
    exact cX_back hAe hQ hout hlocks hK rfl hP hD hS h1 h2 h3 (Nat.le_refl _) (Nat.le_refl _)

def rX9_needIndex : Room := { frames := 0, cells := 0, slots := 0, locals := 0 }
set_option maxHeartbeats 4000000 in
set_option maxRecDepth 100000 in
theorem k_X9_needIndex (l : Launch) (D : va_G) (cI cZ : ClassId) (ad : Nat → Nat) (u : GS) (p0 : Int32) {r : Int32} {w' : GS} (h : g_X9_needIndex u p0 = some (.inl r, w')) : MV l yX9_needIndex (wm yX9_needIndex cX9_needIndex 1 none) rX9_needIndex D [(cI, .int), (cZ, .boolean)] (wC cI cZ ad u) (wC cI cZ ad w') [.int p0] := by
  intro sz
  refine Met.ofW (cc := cX9_needIndex) (maxL := 1) (ret := none) (by decide) rfl ?_
  intro p e s m args below meth c s₁ B hml hv
  obtain ⟨rfl, hsz, hP, hK, hD0, hZ⟩ := hv
  have hx := B.exec
  have hb := B.bytes
  have hr := B.returns
  have hts : ∀ w ∈ Wall, w.before _ s = true := fun w hw => atoms_spec (ws := wm yX9_needIndex cX9_needIndex 1 none) B.pre w (List.mem_cons_of_mem _ hw)
  have hown : s.vm.findClass RX9 = some m.cls := findClass_of_methodNamed B.named
  have hlocks := B.notSynchronized
  subst hsz
  have hD := hD0.self (sz := s.heap.size)
  generalize hAe : va_A (wC cI cZ ad u) s.heap.size = A at hD hZ ⊢
  have hA : ∀ q : Nat, s.heap.size ≤ q → A q := fun q h => by rw [← hAe]; exact Or.inr h
  have hS : va_S A s.heap s.heap [] := va_S.rf
  have hl := lv_entry ([.int p0]) (n := 1) (Nat.le_of_ble_eq_true rfl)
  rw [lg_entry_eq]
  generalize (lg_sl ([.int p0]) ++ List.replicate (1 - (lg_sl ([.int p0])).length) Slot.unset).toArray = ls at hl ⊢
  replace hl : lv_has ls 1 [(0, .int p0)] := hl
  refine w_gen (fun Q hQ => ?_)
  refine lv_iload_n hx hb dX9_needIndex_0 rfl (lv_at hl 0 rfl) ?_
  refine lv_if_ne (tgt := 15) hx hb dX9_needIndex_1 (by decide) (fun c1 => ?_) (fun c1 => ?_)
  · replace h := gx_f c1 h
    cases h
    exact cc_vret hx hb hr hQ hK hP hD hS dX9_needIndex_15 hlocks
  · replace h := gx_t c1 h
    cases h

def rx_X9_needIndex : Room := { frames := 6, cells := 1, slots := 6, locals := 90 }
set_option maxHeartbeats 4000000 in
set_option maxRecDepth 100000 in
theorem kx_X9_needIndex (l : Launch) (hl0 : l.stackTraces = false) (D : va_G) (cI cZ : ClassId) (ad : Nat → Nat) (u : GS) (p0 : Int32) {E : String} {w' : GS} (h : g_X9_needIndex u p0 = some (.inr E, w')) : XV l yX9_needIndex (wm yX9_needIndex cX9_needIndex 1 none) rx_X9_needIndex D [(cI, .int), (cZ, .boolean)] (wC cI cZ ad u) (wC cI cZ ad w') [.int p0] E := by
  intro sz
  refine vx_ofW (cc := cX9_needIndex) (maxL := 1) (ret := none) (by decide) rfl ?_
  intro p e s m args below meth c s₁ B hml hout hv
  obtain ⟨rfl, hsz, hP, hK, hD0, hZ⟩ := hv
  have hx := B.exec
  have hb := B.bytes
  have hts : ∀ w ∈ Wall, w.before _ s = true := fun w hw => atoms_spec (ws := wm yX9_needIndex cX9_needIndex 1 none) B.pre w (List.mem_cons_of_mem _ hw)
  have hown : s.vm.findClass RX9 = some m.cls := findClass_of_methodNamed B.named
  have hlocks := B.notSynchronized
  subst hsz
  have hD := hD0.self (sz := s.heap.size)
  generalize hAe : va_A (wC cI cZ ad u) s.heap.size = A at hD hZ
  have hA : ∀ q : Nat, s.heap.size ≤ q → A q := fun q h => by rw [← hAe]; exact Or.inr h
  have hS : va_S A s.heap s.heap [] := va_S.rf
  have hl := lv_entry ([.int p0]) (n := 1) (Nat.le_of_ble_eq_true rfl)
  rw [lg_entry_eq]
  generalize (lg_sl ([.int p0]) ++ List.replicate (1 - (lg_sl ([.int p0])).length) Slot.unset).toArray = ls at hl ⊢
  replace hl : lv_has ls 1 [(0, .int p0)] := hl
  refine w_gen (fun Q hQ => ?_)
  refine lv_iload_n hx hb dX9_needIndex_0 rfl (lv_at hl 0 rfl) ?_
  refine lv_if_ne (tgt := 15) hx hb dX9_needIndex_1 (by decide) (fun c1 => ?_) (fun c1 => ?_)
  · replace h := gx_f c1 h
    cases h
  · replace h := gx_t c1 h
    cases h
    obtain ⟨sa, hstr⟩ := hZ.2.2.2.2.2.1
    exact cX_throw (names := ["java/lang/RuntimeException", "java/lang/Exception"]) hx hb hl0 hown (by decide +kernel) (by decide +kernel) (hts _ mw_601) (hts _ mw_65) hstr (fun w h => hts w (at_ioobe w h)) (by decide +kernel) hZ.2.2.2.2.2.2.2.2 (by decide +kernel) (by decide +kernel) hAe hZ.2.2.2.2.1 hQ hout hlocks hK hP hD hS (hl.1.trans hml.symm) dX9_needIndex_4 dX9_needIndex_7 dX9_needIndex_8 dX9_needIndex_11 dX9_needIndex_14 (Nat.le_of_ble_eq_true rfl) (Nat.le_of_ble_eq_true rfl) (Nat.le_of_ble_eq_true rfl) (Nat.le_of_ble_eq_true rfl)

def rX9_needSection : Room := { frames := 1, cells := 0, slots := 0, locals := 22 }
set_option maxHeartbeats 4000000 in
set_option maxRecDepth 100000 in
theorem k_X9_needSection (l : Launch) (D : va_G) (cI cZ : ClassId) (ad : Nat → Nat) (u : GS) (p0 : Int32) {r : Int32} {w' : GS} (h : g_X9_needSection u p0 = some (.inl r, w')) : MV l yX9_needSection (wm yX9_needSection cX9_needSection 1 none) rX9_needSection D [(cI, .int), (cZ, .boolean)] (wC cI cZ ad u) (wC cI cZ ad w') [.int p0] := by
  intro sz
  refine Met.ofW (cc := cX9_needSection) (maxL := 1) (ret := none) (by decide) rfl ?_
  intro p e s m args below meth c s₁ B hml hv
  obtain ⟨rfl, hsz, hP, hK, hD0, hZ⟩ := hv
  have hx := B.exec
  have hb := B.bytes
  have hr := B.returns
  have hts : ∀ w ∈ Wall, w.before _ s = true := fun w hw => atoms_spec (ws := wm yX9_needSection cX9_needSection 1 none) B.pre w (List.mem_cons_of_mem _ hw)
  have hown : s.vm.findClass RX9 = some m.cls := findClass_of_methodNamed B.named
  have hlocks := B.notSynchronized
  subst hsz
  have hD := hD0.self (sz := s.heap.size)
  generalize hAe : va_A (wC cI cZ ad u) s.heap.size = A at hD hZ ⊢
  have hA : ∀ q : Nat, s.heap.size ≤ q → A q := fun q h => by rw [← hAe]; exact Or.inr h
  have hS : va_S A s.heap s.heap [] := va_S.rf
  have hl := lv_entry ([.int p0]) (n := 1) (Nat.le_of_ble_eq_true rfl)
  rw [lg_entry_eq]
  generalize (lg_sl ([.int p0]) ++ List.replicate (1 - (lg_sl ([.int p0])).length) Slot.unset).toArray = ls at hl ⊢
  replace hl : lv_has ls 1 [(0, .int p0)] := hl
  refine w_gen (fun Q hQ => ?_)
  refine lv_iload_n hx hb dX9_needSection_0 rfl (lv_at hl 0 rfl) ?_
  refine lv_iconst (v := 0) hx hb dX9_needSection_1 (by decide) ?_
  refine lv_bipush (v := 11) hx hb dX9_needSection_2 (by decide) ?_
  obtain ⟨y1, hc2, h⟩ := gx_bind h
  refine cc_iS (As := [.int p0, .int (0 : Int32), .int (11 : Int32)]) (rest := []) ⟨hx, hb, hml, hown, hts⟩ (k_X9_isWithin l D cI cZ ad u p0 (0 : Int32) (11 : Int32) hc2) (va_cwS 3 hts (gwS mw_391 mw_273 mw_48 mw_274) rfl rfl rfl (by decide +kernel) ⟨Nat.le_of_ble_eq_true rfl, Nat.le_of_ble_eq_true rfl⟩) hK hP hD hS hA hZ rfl hl.1 rfl (Nat.le_of_ble_eq_true rfl) dX9_needSection_4 ⟨Nat.zero_le _, Nat.zero_le _⟩ (fun H locs hP hD hS => ?_)
  obtain ⟨y3, u4, hc5, h⟩ := gx_xr h
  refine cc_vS (As := [.int y1]) (rest := []) ⟨hx, hb, hml, hown, hts⟩ (k_X9_needIndex l D cI cZ ad u y1 hc5) (va_cwS 1 hts (gwS mw_598 mw_599 mw_48 mw_600) rfl rfl rfl (by decide +kernel) ⟨Nat.le_of_ble_eq_true rfl, Nat.le_of_ble_eq_true rfl⟩) hK hP hD hS hA hZ rfl hl.1 rfl (Nat.le_of_ble_eq_true rfl) dX9_needSection_7 ⟨Nat.zero_le _, Nat.zero_le _⟩ (fun H locs hP hD hS => ?_)
  cases h
  exact cc_vret hx hb hr hQ hK hP hD hS dX9_needSection_10 hlocks

def rx_X9_needSection : Room := { frames := 7, cells := 1, slots := 6, locals := 110 }
set_option maxHeartbeats 4000000 in
set_option maxRecDepth 100000 in
theorem kx_X9_needSection (l : Launch) (hl0 : l.stackTraces = false) (D : va_G) (cI cZ : ClassId) (ad : Nat → Nat) (u : GS) (p0 : Int32) {E : String} {w' : GS} (h : g_X9_needSection u p0 = some (.inr E, w')) : XV l yX9_needSection (wm yX9_needSection cX9_needSection 1 none) rx_X9_needSection D [(cI, .int), (cZ, .boolean)] (wC cI cZ ad u) (wC cI cZ ad w') [.int p0] E := by
  intro sz
  refine vx_ofW (cc := cX9_needSection) (maxL := 1) (ret := none) (by decide) rfl ?_
  intro p e s m args below meth c s₁ B hml hout hv
  obtain ⟨rfl, hsz, hP, hK, hD0, hZ⟩ := hv
  have hx := B.exec
  have hb := B.bytes
  have hts : ∀ w ∈ Wall, w.before _ s = true := fun w hw => atoms_spec (ws := wm yX9_needSection cX9_needSection 1 none) B.pre w (List.mem_cons_of_mem _ hw)
  have hown : s.vm.findClass RX9 = some m.cls := findClass_of_methodNamed B.named
  have hlocks := B.notSynchronized
  subst hsz
  have hD := hD0.self (sz := s.heap.size)
  generalize hAe : va_A (wC cI cZ ad u) s.heap.size = A at hD hZ
  have hA : ∀ q : Nat, s.heap.size ≤ q → A q := fun q h => by rw [← hAe]; exact Or.inr h
  have hS : va_S A s.heap s.heap [] := va_S.rf
  have hl := lv_entry ([.int p0]) (n := 1) (Nat.le_of_ble_eq_true rfl)
  rw [lg_entry_eq]
  generalize (lg_sl ([.int p0]) ++ List.replicate (1 - (lg_sl ([.int p0])).length) Slot.unset).toArray = ls at hl ⊢
  replace hl : lv_has ls 1 [(0, .int p0)] := hl
  refine w_gen (fun Q hQ => ?_)
  refine lv_iload_n hx hb dX9_needSection_0 rfl (lv_at hl 0 rfl) ?_
  refine lv_iconst (v := 0) hx hb dX9_needSection_1 (by decide) ?_
  refine lv_bipush (v := 11) hx hb dX9_needSection_2 (by decide) ?_
  obtain ⟨y1, hc2, h⟩ := gx_bind h
  refine cc_iS (As := [.int p0, .int (0 : Int32), .int (11 : Int32)]) (rest := []) ⟨hx, hb, hml, hown, hts⟩ (k_X9_isWithin l D cI cZ ad u p0 (0 : Int32) (11 : Int32) hc2) (va_cwS 3 hts (gwS mw_391 mw_273 mw_48 mw_274) rfl rfl rfl (by decide +kernel) ⟨Nat.le_of_ble_eq_true rfl, Nat.le_of_ble_eq_true rfl⟩) hK hP hD hS hA hZ rfl hl.1 rfl (Nat.le_of_ble_eq_true rfl) dX9_needSection_4 ⟨Nat.zero_le _, Nat.zero_le _⟩ (fun H locs hP hD hS => ?_)
  rcases gx_xx h with ⟨y3, u4, hc5, h⟩ | ⟨u4, hc5, ew⟩
  · refine cc_vS (As := [.int y1]) (rest := []) ⟨hx, hb, hml, hown, hts⟩ (k_X9_needIndex l D cI cZ ad u y1 hc5) (va_cwS 1 hts (gwS mw_598 mw_599 mw_48 mw_600) rfl rfl rfl (by decide +kernel) ⟨Nat.le_of_ble_eq_true rfl, Nat.le_of_ble_eq_true rfl⟩) hK hP hD hS hA hZ rfl hl.1 rfl (Nat.le_of_ble_eq_true rfl) dX9_needSection_7 ⟨Nat.zero_le _, Nat.zero_le _⟩ (fun H locs hP hD hS => ?_)
    cases h
  · replace ew : u4 = w' := ew
    subst ew
    refine cX_vS (As := [.int y1]) (rest := []) ⟨hx, hb, hml, hown, hts⟩ (kx_X9_needIndex l hl0 D cI cZ ad u y1 hc5) (va_cwS 1 hts (gwS mw_598 mw_599 mw_48 mw_600) rfl rfl rfl (by decide +kernel) ⟨Nat.le_of_ble_eq_true rfl, Nat.le_of_ble_eq_true rfl⟩) hK hP hD hS hA hZ rfl hl.1 rfl (Nat.le_of_ble_eq_true rfl) dX9_needSection_7 ⟨Nat.le_of_ble_eq_true rfl, Nat.le_of_ble_eq_true rfl⟩ (fun ce q9 H locs hP hD hS h1 h2 h3 => ?_)
    exact cX_back hAe hQ hout hlocks hK rfl hP hD hS h1 h2 h3 (Nat.le_refl _) (Nat.le_refl _)

def rX9_needPlace : Room := { frames := 2, cells := 0, slots := 0, locals := 42 }
set_option maxHeartbeats 4000000 in
set_option maxRecDepth 100000 in
theorem k_X9_needPlace (l : Launch) (D : va_G) (cI cZ : ClassId) (ad : Nat → Nat) (u : GS) (p0 : Int32) (p1 : Int32) {r : Int32} {w' : GS} (h : g_X9_needPlace u p0 p1 = some (.inl r, w')) : MV l yX9_needPlace (wm yX9_needPlace cX9_needPlace 2 none) rX9_needPlace D [(cI, .int), (cZ, .boolean)] (wC cI cZ ad u) (wC cI cZ ad w') [.int p0, .int p1] := by
  intro sz
  refine Met.ofW (cc := cX9_needPlace) (maxL := 2) (ret := none) (by decide) rfl ?_
  intro p e s m args below meth c s₁ B hml hv
  obtain ⟨rfl, hsz, hP, hK, hD0, hZ⟩ := hv
  have hx := B.exec
  have hb := B.bytes
  have hr := B.returns
  have hts : ∀ w ∈ Wall, w.before _ s = true := fun w hw => atoms_spec (ws := wm yX9_needPlace cX9_needPlace 2 none) B.pre w (List.mem_cons_of_mem _ hw)
  have hown : s.vm.findClass RX9 = some m.cls := findClass_of_methodNamed B.named
  have hlocks := B.notSynchronized
  subst hsz
  have hD := hD0.self (sz := s.heap.size)
  generalize hAe : va_A (wC cI cZ ad u) s.heap.size = A at hD hZ ⊢
  have hA : ∀ q : Nat, s.heap.size ≤ q → A q := fun q h => by rw [← hAe]; exact Or.inr h
  have hS : va_S A s.heap s.heap [] := va_S.rf
  have hl := lv_entry ([.int p0, .int p1]) (n := 2) (Nat.le_of_ble_eq_true rfl)
  rw [lg_entry_eq]
  generalize (lg_sl ([.int p0, .int p1]) ++ List.replicate (2 - (lg_sl ([.int p0, .int p1])).length) Slot.unset).toArray = ls at hl ⊢
  replace hl : lv_has ls 2 [(0, .int p0), (1, .int p1)] := hl
  refine w_gen (fun Q hQ => ?_)
  refine lv_iload_n hx hb dX9_needPlace_0 rfl (lv_at hl 0 rfl) ?_
  obtain ⟨y1, u2, hc3, h⟩ := gx_xr h
  refine cc_vS (As := [.int p0]) (rest := []) ⟨hx, hb, hml, hown, hts⟩ (k_X9_needSection l D cI cZ ad u p0 hc3) (va_cwS 1 hts (gwS mw_595 mw_596 mw_48 mw_597) rfl rfl rfl (by decide +kernel) ⟨Nat.le_of_ble_eq_true rfl, Nat.le_of_ble_eq_true rfl⟩) hK hP hD hS hA hZ rfl hl.1 rfl (Nat.le_of_ble_eq_true rfl) dX9_needPlace_1 ⟨Nat.zero_le _, Nat.zero_le _⟩ (fun H locs hP hD hS => ?_)
  refine lv_iload_n hx hb dX9_needPlace_4 rfl (lv_at hl 1 rfl) ?_
  refine lv_iconst (v := 0) hx hb dX9_needPlace_5 (by decide) ?_
  refine lv_iconst (v := 3) hx hb dX9_needPlace_6 (by decide) ?_
  obtain ⟨y4, hc5, h⟩ := gx_bind h
  refine cc_iS (As := [.int p1, .int (0 : Int32), .int (3 : Int32)]) (rest := []) ⟨hx, hb, hml, hown, hts⟩ (k_X9_isWithin l D cI cZ ad u2 p1 (0 : Int32) (3 : Int32) hc5) (va_cwS 3 hts (gwS mw_391 mw_273 mw_48 mw_274) rfl rfl rfl (by decide +kernel) ⟨Nat.le_of_ble_eq_true rfl, Nat.le_of_ble_eq_true rfl⟩) hK hP hD hS hA hZ rfl hl.1 rfl (Nat.le_of_ble_eq_true rfl) dX9_needPlace_7 ⟨Nat.zero_le _, Nat.zero_le _⟩ (fun H locs hP hD hS => ?_)
  obtain ⟨y6, u7, hc8, h⟩ := gx_xr h
  refine cc_vS (As := [.int y4]) (rest := []) ⟨hx, hb, hml, hown, hts⟩ (k_X9_needIndex l D cI cZ ad u2 y4 hc8) (va_cwS 1 hts (gwS mw_598 mw_599 mw_48 mw_600) rfl rfl rfl (by decide +kernel) ⟨Nat.le_of_ble_eq_true rfl, Nat.le_of_ble_eq_true rfl⟩) hK hP hD hS hA hZ rfl hl.1 rfl (Nat.le_of_ble_eq_true rfl) dX9_needPlace_10 ⟨Nat.zero_le _, Nat.zero_le _⟩ (fun H locs hP hD hS => ?_)
  cases h
  exact cc_vret hx hb hr hQ hK hP hD hS dX9_needPlace_13 hlocks

def rx_X9_needPlace : Room := { frames := 8, cells := 1, slots := 6, locals := 130 }
set_option maxHeartbeats 4000000 in
set_option maxRecDepth 100000 in
theorem kx_X9_needPlace (l : Launch) (hl0 : l.stackTraces = false) (D : va_G) (cI cZ : ClassId) (ad : Nat → Nat) (u : GS) (p0 : Int32) (p1 : Int32) {E : String} {w' : GS} (h : g_X9_needPlace u p0 p1 = some (.inr E, w')) : XV l yX9_needPlace (wm yX9_needPlace cX9_needPlace 2 none) rx_X9_needPlace D [(cI, .int), (cZ, .boolean)] (wC cI cZ ad u) (wC cI cZ ad w') [.int p0, .int p1] E := by
  intro sz
  refine vx_ofW (cc := cX9_needPlace) (maxL := 2) (ret := none) (by decide) rfl ?_
  intro p e s m args below meth c s₁ B hml hout hv
  obtain ⟨rfl, hsz, hP, hK, hD0, hZ⟩ := hv
  have hx := B.exec
  have hb := B.bytes
  have hts : ∀ w ∈ Wall, w.before _ s = true := fun w hw => atoms_spec (ws := wm yX9_needPlace cX9_needPlace 2 none) B.pre w (List.mem_cons_of_mem _ hw)
  have hown : s.vm.findClass RX9 = some m.cls := findClass_of_methodNamed B.named
  have hlocks := B.notSynchronized
  subst hsz
  have hD := hD0.self (sz := s.heap.size)
  generalize hAe : va_A (wC cI cZ ad u) s.heap.size = A at hD hZ
  have hA : ∀ q : Nat, s.heap.size ≤ q → A q := fun q h => by rw [← hAe]; exact Or.inr h
  have hS : va_S A s.heap s.heap [] := va_S.rf
  have hl := lv_entry ([.int p0, .int p1]) (n := 2) (Nat.le_of_ble_eq_true rfl)
  rw [lg_entry_eq]
  generalize (lg_sl ([.int p0, .int p1]) ++ List.replicate (2 - (lg_sl ([.int p0, .int p1])).length) Slot.unset).toArray = ls at hl ⊢
  replace hl : lv_has ls 2 [(0, .int p0), (1, .int p1)] := hl
  refine w_gen (fun Q hQ => ?_)
  refine lv_iload_n hx hb dX9_needPlace_0 rfl (lv_at hl 0 rfl) ?_
  rcases gx_xx h with ⟨y1, u2, hc3, h⟩ | ⟨u2, hc3, ew⟩
  · refine cc_vS (As := [.int p0]) (rest := []) ⟨hx, hb, hml, hown, hts⟩ (k_X9_needSection l D cI cZ ad u p0 hc3) (va_cwS 1 hts (gwS mw_595 mw_596 mw_48 mw_597) rfl rfl rfl (by decide +kernel) ⟨Nat.le_of_ble_eq_true rfl, Nat.le_of_ble_eq_true rfl⟩) hK hP hD hS hA hZ rfl hl.1 rfl (Nat.le_of_ble_eq_true rfl) dX9_needPlace_1 ⟨Nat.zero_le _, Nat.zero_le _⟩ (fun H locs hP hD hS => ?_)
    refine lv_iload_n hx hb dX9_needPlace_4 rfl (lv_at hl 1 rfl) ?_
    refine lv_iconst (v := 0) hx hb dX9_needPlace_5 (by decide) ?_
    refine lv_iconst (v := 3) hx hb dX9_needPlace_6 (by decide) ?_
    obtain ⟨y4, hc5, h⟩ := gx_bind h
    refine cc_iS (As := [.int p1, .int (0 : Int32), .int (3 : Int32)]) (rest := []) ⟨hx, hb, hml, hown, hts⟩ (k_X9_isWithin l D cI cZ ad u2 p1 (0 : Int32) (3 : Int32) hc5) (va_cwS 3 hts (gwS mw_391 mw_273 mw_48 mw_274) rfl rfl rfl (by decide +kernel) ⟨Nat.le_of_ble_eq_true rfl, Nat.le_of_ble_eq_true rfl⟩) hK hP hD hS hA hZ rfl hl.1 rfl (Nat.le_of_ble_eq_true rfl) dX9_needPlace_7 ⟨Nat.zero_le _, Nat.zero_le _⟩ (fun H locs hP hD hS => ?_)
    rcases gx_xx h with ⟨y6, u7, hc8, h⟩ | ⟨u7, hc8, ew⟩
    · refine cc_vS (As := [.int y4]) (rest := []) ⟨hx, hb, hml, hown, hts⟩ (k_X9_needIndex l D cI cZ ad u2 y4 hc8) (va_cwS 1 hts (gwS mw_598 mw_599 mw_48 mw_600) rfl rfl rfl (by decide +kernel) ⟨Nat.le_of_ble_eq_true rfl, Nat.le_of_ble_eq_true rfl⟩) hK hP hD hS hA hZ rfl hl.1 rfl (Nat.le_of_ble_eq_true rfl) dX9_needPlace_10 ⟨Nat.zero_le _, Nat.zero_le _⟩ (fun H locs hP hD hS => ?_)
      cases h
    · replace ew : u7 = w' := ew
      subst ew
      refine cX_vS (As := [.int y4]) (rest := []) ⟨hx, hb, hml, hown, hts⟩ (kx_X9_needIndex l hl0 D cI cZ ad u2 y4 hc8) (va_cwS 1 hts (gwS mw_598 mw_599 mw_48 mw_600) rfl rfl rfl (by decide +kernel) ⟨Nat.le_of_ble_eq_true rfl, Nat.le_of_ble_eq_true rfl⟩) hK hP hD hS hA hZ rfl hl.1 rfl (Nat.le_of_ble_eq_true rfl) dX9_needPlace_10 ⟨Nat.le_of_ble_eq_true rfl, Nat.le_of_ble_eq_true rfl⟩ (fun ce q9 H locs hP hD hS h1 h2 h3 => ?_)
      exact cX_back hAe hQ hout hlocks hK rfl hP hD hS h1 h2 h3 (Nat.le_refl _) (Nat.le_refl _)
  · replace ew : u2 = w' := ew
    subst ew
    refine cX_vS (As := [.int p0]) (rest := []) ⟨hx, hb, hml, hown, hts⟩ (kx_X9_needSection l hl0 D cI cZ ad u p0 hc3) (va_cwS 1 hts (gwS mw_595 mw_596 mw_48 mw_597) rfl rfl rfl (by decide +kernel) ⟨Nat.le_of_ble_eq_true rfl, Nat.le_of_ble_eq_true rfl⟩) hK hP hD hS hA hZ rfl hl.1 rfl (Nat.le_of_ble_eq_true rfl) dX9_needPlace_1 ⟨Nat.le_of_ble_eq_true rfl, Nat.le_of_ble_eq_true rfl⟩ (fun ce q9 H locs hP hD hS h1 h2 h3 => ?_)
    exact cX_back hAe hQ hout hlocks hK rfl hP hD hS h1 h2 h3 (Nat.le_refl _) (Nat.le_refl _)

def rX9_holds : Room := { frames := 3, cells := 0, slots := 0, locals := 63 }
set_option maxHeartbeats 4000000 in
set_option maxRecDepth 100000 in
theorem k_X9_holds (l : Launch) (D : va_G) (cI cZ : ClassId) (ad : Nat → Nat) (u : GS) (p0 : Int32) (p1 : Int32) {r : Int32} {w' : GS} (h : g_X9_holds u p0 p1 = some (.inl r, w')) : MI l yX9_holds (wm yX9_holds cX9_holds 3 (some .int)) rX9_holds D [(cI, .int), (cZ, .boolean)] (wC cI cZ ad u) (wC cI cZ ad w') [.ref (ad 0), .int p0, .int p1] r := by
  intro sz
  refine Met.ofW (cc := cX9_holds) (maxL := 3) (ret := (some .int)) (by decide) rfl ?_
  intro p e s m args below meth c s₁ B hml hv
  obtain ⟨rfl, hsz, hP, hK, hD0, hZ⟩ := hv
  have hx := B.exec
  have hb := B.bytes
  have hr := B.returns
  have hts : ∀ w ∈ Wall, w.before _ s = true := fun w hw => atoms_spec (ws := wm yX9_holds cX9_holds 3 (some .int)) B.pre w (List.mem_cons_of_mem _ hw)
  have hown : s.vm.findClass RX9 = some m.cls := findClass_of_methodNamed B.named
  have hlocks := B.notSynchronized
  subst hsz
  have hD := hD0.self (sz := s.heap.size)
  generalize hAe : va_A (wC cI cZ ad u) s.heap.size = A at hD hZ ⊢
  have hA : ∀ q : Nat, s.heap.size ≤ q → A q := fun q h => by rw [← hAe]; exact Or.inr h
  have hS : va_S A s.heap s.heap [] := va_S.rf
  have hf16 := hts _ mw_305
  have hf110 := hts _ mw_81
  have hl := lv_entry ([.ref (ad 0), .int p0, .int p1]) (n := 3) (Nat.le_of_ble_eq_true rfl)
  rw [lg_entry_eq]
  generalize (lg_sl ([.ref (ad 0), .int p0, .int p1]) ++ List.replicate (3 - (lg_sl ([.ref (ad 0), .int p0, .int p1])).length) Slot.unset).toArray = ls at hl ⊢
  replace hl : lv_has ls 3 [(0, .ref (ad 0)), (1, .int p0), (2, .int p1)] := hl
  refine w_gen (fun Q hQ => ?_)
  refine lv_iload_n hx hb dX9_holds_0 rfl (lv_at hl 1 rfl) ?_
  refine lv_iload_n hx hb dX9_holds_1 rfl (lv_at hl 2 rfl) ?_
  obtain ⟨y1, u2, hc3, h⟩ := gx_xr h
  refine cc_vS (As := [.int p0, .int p1]) (rest := []) ⟨hx, hb, hml, hown, hts⟩ (k_X9_needPlace l D cI cZ ad u p0 p1 hc3) (va_cwS 2 hts (gwS mw_592 mw_593 mw_48 mw_594) rfl rfl rfl (by decide +kernel) ⟨Nat.le_of_ble_eq_true rfl, Nat.le_of_ble_eq_true rfl⟩) hK hP hD hS hA hZ rfl hl.1 rfl (Nat.le_of_ble_eq_true rfl) dX9_holds_2 ⟨Nat.zero_le _, Nat.zero_le _⟩ (fun H locs hP hD hS => ?_)
  refine lv_aload_n hx hb dX9_holds_5 rfl (lv_at hl 0 rfl) ?_
  refine va_get (D := D) (ci := 9) (v := .ref (ad 1)) (C := RX9) (T := TX9) (N := 10) hx hb hts iX9 hown hK hP 0 rfl rfl 1 (by decide) hf16 (fun _ h9 => h9) rfl dX9_holds_6 ?_
  refine va_get (D := D) (ci := 8) (v := .ref (ad 10)) (C := RX8) (T := TX8) (N := 7) hx hb hts iX8 hown hK hP 1 rfl rfl 0 (by decide) hf110 (fun _ h9 => h9) rfl dX9_holds_9 ?_
  refine lv_iload_n hx hb dX9_holds_12 rfl (lv_at hl 1 rfl) ?_
  refine lv_iload_n hx hb dX9_holds_13 rfl (lv_at hl 2 rfl) ?_
  obtain ⟨y4, hc5, h⟩ := gx_bind h
  refine cc_iS (As := [.int p0, .int p1]) (rest := [.ref (ad 10)]) ⟨hx, hb, hml, hown, hts⟩ (k_X9_placeOf l D cI cZ ad u2 p0 p1 hc5) (va_cwS 2 hts (gwS mw_617 mw_266 mw_48 mw_267) rfl rfl rfl (by decide +kernel) ⟨Nat.le_of_ble_eq_true rfl, Nat.le_of_ble_eq_true rfl⟩) hK hP hD hS hA hZ rfl hl.1 rfl (Nat.le_of_ble_eq_true rfl) dX9_holds_14 ⟨Nat.zero_le _, Nat.zero_le _⟩ (fun H locs hP hD hS => ?_)
  obtain ⟨b6, h⟩ := gx_in h
  refine va_iald (D := D) hx hb hK hP 10 0 rfl rfl b6 dX9_holds_17 ?_
  cases h
  exact cc_ret hx hb hr rfl hQ hK hP hD hS rfl dX9_holds_18 hlocks

def rx_X9_holds : Room := { frames := 9, cells := 1, slots := 6, locals := 151 }
set_option maxHeartbeats 4000000 in
set_option maxRecDepth 100000 in
theorem kx_X9_holds (l : Launch) (hl0 : l.stackTraces = false) (D : va_G) (cI cZ : ClassId) (ad : Nat → Nat) (u : GS) (p0 : Int32) (p1 : Int32) {E : String} {w' : GS} (h : g_X9_holds u p0 p1 = some (.inr E, w')) : XI l yX9_holds (wm yX9_holds cX9_holds 3 (some .int)) rx_X9_holds D [(cI, .int), (cZ, .boolean)] (wC cI cZ ad u) (wC cI cZ ad w') [.ref (ad 0), .int p0, .int p1] E := by
  intro sz
  refine vx_ofW (cc := cX9_holds) (maxL := 3) (ret := (some .int)) (by decide) rfl ?_
  intro p e s m args below meth c s₁ B hml hout hv
  obtain ⟨rfl, hsz, hP, hK, hD0, hZ⟩ := hv
  have hx := B.exec
  have hb := B.bytes
  have hts : ∀ w ∈ Wall, w.before _ s = true := fun w hw => atoms_spec (ws := wm yX9_holds cX9_holds 3 (some .int)) B.pre w (List.mem_cons_of_mem _ hw)
  have hown : s.vm.findClass RX9 = some m.cls := findClass_of_methodNamed B.named
  have hlocks := B.notSynchronized
  subst hsz
  have hD := hD0.self (sz := s.heap.size)
  generalize hAe : va_A (wC cI cZ ad u) s.heap.size = A at hD hZ
  have hA : ∀ q : Nat, s.heap.size ≤ q → A q := fun q h => by rw [← hAe]; exact Or.inr h
  have hS : va_S A s.heap s.heap [] := va_S.rf
  have hf16 := hts _ mw_305
  have hf110 := hts _ mw_81
  have hl := lv_entry ([.ref (ad 0), .int p0, .int p1]) (n := 3) (Nat.le_of_ble_eq_true rfl)
  rw [lg_entry_eq]
  generalize (lg_sl ([.ref (ad 0), .int p0, .int p1]) ++ List.replicate (3 - (lg_sl ([.ref (ad 0), .int p0, .int p1])).length) Slot.unset).toArray = ls at hl ⊢
  replace hl : lv_has ls 3 [(0, .ref (ad 0)), (1, .int p0), (2, .int p1)] := hl
  refine w_gen (fun Q hQ => ?_)
  refine lv_iload_n hx hb dX9_holds_0 rfl (lv_at hl 1 rfl) ?_
  refine lv_iload_n hx hb dX9_holds_1 rfl (lv_at hl 2 rfl) ?_
  rcases gx_xx h with ⟨y1, u2, hc3, h⟩ | ⟨u2, hc3, ew⟩
  · refine cc_vS (As := [.int p0, .int p1]) (rest := []) ⟨hx, hb, hml, hown, hts⟩ (k_X9_needPlace l D cI cZ ad u p0 p1 hc3) (va_cwS 2 hts (gwS mw_592 mw_593 mw_48 mw_594) rfl rfl rfl (by decide +kernel) ⟨Nat.le_of_ble_eq_true rfl, Nat.le_of_ble_eq_true rfl⟩) hK hP hD hS hA hZ rfl hl.1 rfl (Nat.le_of_ble_eq_true rfl) dX9_holds_2 ⟨Nat.zero_le _, Nat.zero_le _⟩ (fun H locs hP hD hS => ?_)
    refine lv_aload_n hx hb dX9_holds_5 rfl (lv_at hl 0 rfl) ?_
    refine va_get (D := D) (ci := 9) (v := .ref (ad 1)) (C := RX9) (T := TX9) (N := 10) hx hb hts iX9 hown hK hP 0 rfl rfl 1 (by decide) hf16 (fun _ h9 => h9) rfl dX9_holds_6 ?_
    refine va_get (D := D) (ci := 8) (v := .ref (ad 10)) (C := RX8) (T := TX8) (N := 7) hx hb hts iX8 hown hK hP 1 rfl rfl 0 (by decide) hf110 (fun _ h9 => h9) rfl dX9_holds_9 ?_
    refine lv_iload_n hx hb dX9_holds_12 rfl (lv_at hl 1 rfl) ?_
    refine lv_iload_n hx hb dX9_holds_13 rfl (lv_at hl 2 rfl) ?_
    obtain ⟨y4, hc5, h⟩ := gx_bind h
    refine cc_iS (As := [.int p0, .int p1]) (rest := [.ref (ad 10)]) ⟨hx, hb, hml, hown, hts⟩ (k_X9_placeOf l D cI cZ ad u2 p0 p1 hc5) (va_cwS 2 hts (gwS mw_617 mw_266 mw_48 mw_267) rfl rfl rfl (by decide +kernel) ⟨Nat.le_of_ble_eq_true rfl, Nat.le_of_ble_eq_true rfl⟩) hK hP hD hS hA hZ rfl hl.1 rfl (Nat.le_of_ble_eq_true rfl) dX9_holds_14 ⟨Nat.zero_le _, Nat.zero_le _⟩ (fun H locs hP hD hS => ?_)
    obtain ⟨b6, h⟩ := gx_in h
    refine va_iald (D := D) hx hb hK hP 10 0 rfl rfl b6 dX9_holds_17 ?_
    cases h
  · replace ew : u2 = w' := ew
    subst ew
    refine cX_vS (As := [.int p0, .int p1]) (rest := []) ⟨hx, hb, hml, hown, hts⟩ (kx_X9_needPlace l hl0 D cI cZ ad u p0 p1 hc3) (va_cwS 2 hts (gwS mw_592 mw_593 mw_48 mw_594) rfl rfl rfl (by decide +kernel) ⟨Nat.le_of_ble_eq_true rfl, Nat.le_of_ble_eq_true rfl⟩) hK hP hD hS hA hZ rfl hl.1 rfl (Nat.le_of_ble_eq_true rfl) dX9_holds_2 ⟨Nat.le_of_ble_eq_true rfl, Nat.le_of_ble_eq_true rfl⟩ (fun ce q9 H locs hP hD hS h1 h2 h3 => ?_)
    exact cX_back hAe hQ hout hlocks hK rfl hP hD hS h1 h2 h3 (Nat.le_refl _) (Nat.le_refl _)

def rX9_vehicles : Room := { frames := 1, cells := 0, slots := 0, locals := 22 }
set_option maxHeartbeats 4000000 in
set_option maxRecDepth 100000 in
theorem k_X9_vehicles (l : Launch) (D : va_G) (cI cZ : ClassId) (ad : Nat → Nat) (u : GS) (p0 : Int32) {r : Int32} {w' : GS} (h : g_X9_vehicles u p0 = some (.inl r, w')) : MI l yX9_vehicles (wm yX9_vehicles cX9_vehicles 2 (some .int)) rX9_vehicles D [(cI, .int), (cZ, .boolean)] (wC cI cZ ad u) (wC cI cZ ad w') [.ref (ad 0), .int p0] r := by
  intro sz
  refine Met.ofW (cc := cX9_vehicles) (maxL := 2) (ret := (some .int)) (by decide) rfl ?_
  intro p e s m args below meth c s₁ B hml hv
  obtain ⟨rfl, hsz, hP, hK, hD0, hZ⟩ := hv
  have hx := B.exec
  have hb := B.bytes
  have hr := B.returns
  have hts : ∀ w ∈ Wall, w.before _ s = true := fun w hw => atoms_spec (ws := wm yX9_vehicles cX9_vehicles 2 (some .int)) B.pre w (List.mem_cons_of_mem _ hw)
  have hown : s.vm.findClass RX9 = some m.cls := findClass_of_methodNamed B.named
  have hlocks := B.notSynchronized
  subst hsz
  have hD := hD0.self (sz := s.heap.size)
  generalize hAe : va_A (wC cI cZ ad u) s.heap.size = A at hD hZ ⊢
  have hA : ∀ q : Nat, s.heap.size ≤ q → A q := fun q h => by rw [← hAe]; exact Or.inr h
  have hS : va_S A s.heap s.heap [] := va_S.rf
  have hf16 := hts _ mw_305
  have hf117 := hts _ mw_89
  have hf124 := hts _ mw_91
  have hf127 := hts _ mw_93
  have hl := lv_entry ([.ref (ad 0), .int p0]) (n := 2) (Nat.le_of_ble_eq_true rfl)
  rw [lg_entry_eq]
  generalize (lg_sl ([.ref (ad 0), .int p0]) ++ List.replicate (2 - (lg_sl ([.ref (ad 0), .int p0])).length) Slot.unset).toArray = ls at hl ⊢
  replace hl : lv_has ls 2 [(0, .ref (ad 0)), (1, .int p0)] := hl
  refine w_gen (fun Q hQ => ?_)
  refine lv_iload_n hx hb dX9_vehicles_0 rfl (lv_at hl 1 rfl) ?_
  refine lv_iconst (v := 0) hx hb dX9_vehicles_1 (by decide) ?_
  refine lv_iconst (v := 3) hx hb dX9_vehicles_2 (by decide) ?_
  obtain ⟨y1, hc2, h⟩ := gx_bind h
  refine cc_iS (As := [.int p0, .int (0 : Int32), .int (3 : Int32)]) (rest := []) ⟨hx, hb, hml, hown, hts⟩ (k_X9_isWithin l D cI cZ ad u p0 (0 : Int32) (3 : Int32) hc2) (va_cwS 3 hts (gwS mw_391 mw_273 mw_48 mw_274) rfl rfl rfl (by decide +kernel) ⟨Nat.le_of_ble_eq_true rfl, Nat.le_of_ble_eq_true rfl⟩) hK hP hD hS hA hZ rfl hl.1 rfl (Nat.le_of_ble_eq_true rfl) dX9_vehicles_3 ⟨Nat.zero_le _, Nat.zero_le _⟩ (fun H locs hP hD hS => ?_)
  obtain ⟨y3, u4, hc5, h⟩ := gx_xr h
  refine cc_vS (As := [.int y1]) (rest := []) ⟨hx, hb, hml, hown, hts⟩ (k_X9_needArgument l D cI cZ ad u y1 hc5) (va_cwS 1 hts (gwS mw_392 mw_393 mw_48 mw_394) rfl rfl rfl (by decide +kernel) ⟨Nat.le_of_ble_eq_true rfl, Nat.le_of_ble_eq_true rfl⟩) hK hP hD hS hA hZ rfl hl.1 rfl (Nat.le_of_ble_eq_true rfl) dX9_vehicles_6 ⟨Nat.zero_le _, Nat.zero_le _⟩ (fun H locs hP hD hS => ?_)
  refine lv_iload_n hx hb dX9_vehicles_9 rfl (lv_at hl 1 rfl) ?_
  by_cases c10_0 : p0 = 0
  · replace h := gx_t c10_0 h
    refine lv_tableIn (tgt := 36) (off := 26) hx hb dX9_vehicles_10 (by rw [c10_0]; decide) (by rw [c10_0]; decide) (by rw [c10_0]; decide) (by decide) ?_
    refine lv_aload_n hx hb dX9_vehicles_36 rfl (lv_at hl 0 rfl) ?_
    refine va_get (D := D) (ci := 9) (v := .ref (ad 1)) (C := RX9) (T := TX9) (N := 10) hx hb hts iX9 hown hK hP 0 rfl rfl 1 (by decide) hf16 (fun _ h9 => h9) rfl dX9_vehicles_37 ?_
    refine va_get (D := D) (ci := 8) (v := .int (cT_came u4)) (C := RX8) (T := TX8) (N := 7) hx hb hts iX8 hown hK hP 1 rfl rfl 4 (by decide) hf117 (fun _ h9 => h9) rfl dX9_vehicles_40 ?_
    cases h
    exact cc_ret hx hb hr rfl hQ hK hP hD hS rfl dX9_vehicles_43 hlocks
  · replace h := gx_f c10_0 h
    by_cases c10_1 : p0 = 1
    · replace h := gx_t c10_1 h
      refine lv_tableIn (tgt := 44) (off := 34) hx hb dX9_vehicles_10 (by rw [c10_1]; decide) (by rw [c10_1]; decide) (by rw [c10_1]; decide) (by decide) ?_
      refine lv_aload_n hx hb dX9_vehicles_44 rfl (lv_at hl 0 rfl) ?_
      refine va_get (D := D) (ci := 9) (v := .ref (ad 1)) (C := RX9) (T := TX9) (N := 10) hx hb hts iX9 hown hK hP 0 rfl rfl 1 (by decide) hf16 (fun _ h9 => h9) rfl dX9_vehicles_45 ?_
      obtain ⟨y6, hc7, h⟩ := gx_bind h
      refine cc_iV (As := []) (rest := []) ⟨hx, hb, hml, hown, hts⟩ (k_X8_countOnRoad l D cI cZ ad u4 hc7) (cwV 0 hts (gwV mw_625 mw_626 mw_627 mw_49 mw_628) rfl rfl rfl (by decide +kernel) ⟨Nat.le_of_ble_eq_true rfl, Nat.le_of_ble_eq_true rfl⟩) hK hP hD hS hA hZ (ci := 8) (q0 := 1) rfl rfl rfl hl.1 rfl (Nat.le_of_ble_eq_true rfl) dX9_vehicles_48 ⟨Nat.zero_le _, Nat.zero_le _⟩ (fun H locs hP hD hS => ?_)
      cases h
      exact cc_ret hx hb hr rfl hQ hK hP hD hS rfl dX9_vehicles_51 hlocks
    · replace h := gx_f c10_1 h
      by_cases c10_2 : p0 = 2
      · replace h := gx_t c10_2 h
        refine lv_tableIn (tgt := 52) (off := 42) hx hb dX9_vehicles_10 (by rw [c10_2]; decide) (by rw [c10_2]; decide) (by rw [c10_2]; decide) (by decide) ?_
        refine lv_aload_n hx hb dX9_vehicles_52 rfl (lv_at hl 0 rfl) ?_
        refine va_get (D := D) (ci := 9) (v := .ref (ad 1)) (C := RX9) (T := TX9) (N := 10) hx hb hts iX9 hown hK hP 0 rfl rfl 1 (by decide) hf16 (fun _ h9 => h9) rfl dX9_vehicles_53 ?_
        refine va_get (D := D) (ci := 8) (v := .int (cT_waiting u4)) (C := RX8) (T := TX8) (N := 7) hx hb hts iX8 hown hK hP 1 rfl rfl 5 (by decide) hf124 (fun _ h9 => h9) rfl dX9_vehicles_56 ?_
        cases h
        exact cc_ret hx hb hr rfl hQ hK hP hD hS rfl dX9_vehicles_59 hlocks
      · replace h := gx_f c10_2 h
        have t10_0 := gx_sw0 (n := 0) rfl c10_0
        have t10_1 := gx_sw0 (n := 1) rfl c10_1
        have t10_2 := gx_sw0 (n := 2) rfl c10_2
        refine lv_tableOut (tgt := 60) hx hb dX9_vehicles_10 (by omega) (by decide) ?_
        refine lv_aload_n hx hb dX9_vehicles_60 rfl (lv_at hl 0 rfl) ?_
        refine va_get (D := D) (ci := 9) (v := .ref (ad 1)) (C := RX9) (T := TX9) (N := 10) hx hb hts iX9 hown hK hP 0 rfl rfl 1 (by decide) hf16 (fun _ h9 => h9) rfl dX9_vehicles_61 ?_
        refine va_get (D := D) (ci := 8) (v := .int (cT_gone u4)) (C := RX8) (T := TX8) (N := 7) hx hb hts iX8 hown hK hP 1 rfl rfl 6 (by decide) hf127 (fun _ h9 => h9) rfl dX9_vehicles_64 ?_
        cases h
        exact cc_ret hx hb hr rfl hQ hK hP hD hS rfl dX9_vehicles_67 hlocks

def rx_X9_vehicles : Room := { frames := 7, cells := 1, slots := 6, locals := 110 }
set_option maxHeartbeats 4000000 in
set_option maxRecDepth 100000 in
theorem kx_X9_vehicles (l : Launch) (hl0 : l.stackTraces = false) (D : va_G) (cI cZ : ClassId) (ad : Nat → Nat) (u : GS) (p0 : Int32) {E : String} {w' : GS} (h : g_X9_vehicles u p0 = some (.inr E, w')) : XI l yX9_vehicles (wm yX9_vehicles cX9_vehicles 2 (some .int)) rx_X9_vehicles D [(cI, .int), (cZ, .boolean)] (wC cI cZ ad u) (wC cI cZ ad w') [.ref (ad 0), .int p0] E := by
  intro sz
  refine vx_ofW (cc := cX9_vehicles) (maxL := 2) (ret := (some .int)) (by decide) rfl ?_
  intro p e s m args below meth c s₁ B hml hout hv
  obtain ⟨rfl, hsz, hP, hK, hD0, hZ⟩ := hv
  have hx := B.exec
  have hb := B.bytes
  have hts : ∀ w ∈ Wall, w.before _ s = true := fun w hw => atoms_spec (ws := wm yX9_vehicles cX9_vehicles 2 (some .int)) B.pre w (List.mem_cons_of_mem _ hw)
  have hown : s.vm.findClass RX9 = some m.cls := findClass_of_methodNamed B.named
  have hlocks := B.notSynchronized
  subst hsz
  have hD := hD0.self (sz := s.heap.size)
  generalize hAe : va_A (wC cI cZ ad u) s.heap.size = A at hD hZ
  have hA : ∀ q : Nat, s.heap.size ≤ q → A q := fun q h => by rw [← hAe]; exact Or.inr h
  have hS : va_S A s.heap s.heap [] := va_S.rf
  have hf16 := hts _ mw_305
  have hf117 := hts _ mw_89
  have hf124 := hts _ mw_91
  have hf127 := hts _ mw_93
  have hl := lv_entry ([.ref (ad 0), .int p0]) (n := 2) (Nat.le_of_ble_eq_true rfl)
  rw [lg_entry_eq]
  generalize (lg_sl ([.ref (ad 0), .int p0]) ++ List.replicate (2 - (lg_sl ([.ref (ad 0), .int p0])).length) Slot.unset).toArray = ls at hl ⊢
  replace hl : lv_has ls 2 [(0, .ref (ad 0)), (1, .int p0)] := hl
  refine w_gen (fun Q hQ => ?_)
  refine lv_iload_n hx hb dX9_vehicles_0 rfl (lv_at hl 1 rfl) ?_
  refine lv_iconst (v := 0) hx hb dX9_vehicles_1 (by decide) ?_
  refine lv_iconst (v := 3) hx hb dX9_vehicles_2 (by decide) ?_
  obtain ⟨y1, hc2, h⟩ := gx_bind h
  refine cc_iS (As := [.int p0, .int (0 : Int32), .int (3 : Int32)]) (rest := []) ⟨hx, hb, hml, hown, hts⟩ (k_X9_isWithin l D cI cZ ad u p0 (0 : Int32) (3 : Int32) hc2) (va_cwS 3 hts (gwS mw_391 mw_273 mw_48 mw_274) rfl rfl rfl (by decide +kernel) ⟨Nat.le_of_ble_eq_true rfl, Nat.le_of_ble_eq_true rfl⟩) hK hP hD hS hA hZ rfl hl.1 rfl (Nat.le_of_ble_eq_true rfl) dX9_vehicles_3 ⟨Nat.zero_le _, Nat.zero_le _⟩ (fun H locs hP hD hS => ?_)
  rcases gx_xx h with ⟨y3, u4, hc5, h⟩ | ⟨u4, hc5, ew⟩
  · refine cc_vS (As := [.int y1]) (rest := []) ⟨hx, hb, hml, hown, hts⟩ (k_X9_needArgument l D cI cZ ad u y1 hc5) (va_cwS 1 hts (gwS mw_392 mw_393 mw_48 mw_394) rfl rfl rfl (by decide +kernel) ⟨Nat.le_of_ble_eq_true rfl, Nat.le_of_ble_eq_true rfl⟩) hK hP hD hS hA hZ rfl hl.1 rfl (Nat.le_of_ble_eq_true rfl) dX9_vehicles_6 ⟨Nat.zero_le _, Nat.zero_le _⟩ (fun H locs hP hD hS => ?_)
    refine lv_iload_n hx hb dX9_vehicles_9 rfl (lv_at hl 1 rfl) ?_
    by_cases c10_0 : p0 = 0
    · replace h := gx_t c10_0 h
      refine lv_tableIn (tgt := 36) (off := 26) hx hb dX9_vehicles_10 (by rw [c10_0]; decide) (by rw [c10_0]; decide) (by rw [c10_0]; decide) (by decide) ?_
      refine lv_aload_n hx hb dX9_vehicles_36 rfl (lv_at hl 0 rfl) ?_
      refine va_get (D := D) (ci := 9) (v := .ref (ad 1)) (C := RX9) (T := TX9) (N := 10) hx hb hts iX9 hown hK hP 0 rfl rfl 1 (by decide) hf16 (fun _ h9 => h9) rfl dX9_vehicles_37 ?_
      refine va_get (D := D) (ci := 8) (v := .int (cT_came u4)) (C := RX8) (T := TX8) (N := 7) hx hb hts iX8 hown hK hP 1 rfl rfl 4 (by decide) hf117 (fun _ h9 => h9) rfl dX9_vehicles_40 ?_
      cases h
    · replace h := gx_f c10_0 h
      by_cases c10_1 : p0 = 1
      · replace h := gx_t c10_1 h
        refine lv_tableIn (tgt := 44) (off := 34) hx hb dX9_vehicles_10 (by rw [c10_1]; decide) (by rw [c10_1]; decide) (by rw [c10_1]; decide) (by decide) ?_
        refine lv_aload_n hx hb dX9_vehicles_44 rfl (lv_at hl 0 rfl) ?_
        refine va_get (D := D) (ci := 9) (v := .ref (ad 1)) (C := RX9) (T := TX9) (N := 10) hx hb hts iX9 hown hK hP 0 rfl rfl 1 (by decide) hf16 (fun _ h9 => h9) rfl dX9_vehicles_45 ?_
        obtain ⟨y6, hc7, h⟩ := gx_bind h
        refine cc_iV (As := []) (rest := []) ⟨hx, hb, hml, hown, hts⟩ (k_X8_countOnRoad l D cI cZ ad u4 hc7) (cwV 0 hts (gwV mw_625 mw_626 mw_627 mw_49 mw_628) rfl rfl rfl (by decide +kernel) ⟨Nat.le_of_ble_eq_true rfl, Nat.le_of_ble_eq_true rfl⟩) hK hP hD hS hA hZ (ci := 8) (q0 := 1) rfl rfl rfl hl.1 rfl (Nat.le_of_ble_eq_true rfl) dX9_vehicles_48 ⟨Nat.zero_le _, Nat.zero_le _⟩ (fun H locs hP hD hS => ?_)
        cases h
      · replace h := gx_f c10_1 h
        by_cases c10_2 : p0 = 2
        · replace h := gx_t c10_2 h
          refine lv_tableIn (tgt := 52) (off := 42) hx hb dX9_vehicles_10 (by rw [c10_2]; decide) (by rw [c10_2]; decide) (by rw [c10_2]; decide) (by decide) ?_
          refine lv_aload_n hx hb dX9_vehicles_52 rfl (lv_at hl 0 rfl) ?_
          refine va_get (D := D) (ci := 9) (v := .ref (ad 1)) (C := RX9) (T := TX9) (N := 10) hx hb hts iX9 hown hK hP 0 rfl rfl 1 (by decide) hf16 (fun _ h9 => h9) rfl dX9_vehicles_53 ?_
          refine va_get (D := D) (ci := 8) (v := .int (cT_waiting u4)) (C := RX8) (T := TX8) (N := 7) hx hb hts iX8 hown hK hP 1 rfl rfl 5 (by decide) hf124 (fun _ h9 => h9) rfl dX9_vehicles_56 ?_
          cases h
        · replace h := gx_f c10_2 h
          have t10_0 := gx_sw0 (n := 0) rfl c10_0
          have t10_1 := gx_sw0 (n := 1) rfl c10_1
          have t10_2 := gx_sw0 (n := 2) rfl c10_2
          refine lv_tableOut (tgt := 60) hx hb dX9_vehicles_10 (by omega) (by decide) ?_
          refine lv_aload_n hx hb dX9_vehicles_60 rfl (lv_at hl 0 rfl) ?_
          refine va_get (D := D) (ci := 9) (v := .ref (ad 1)) (C := RX9) (T := TX9) (N := 10) hx hb hts iX9 hown hK hP 0 rfl rfl 1 (by decide) hf16 (fun _ h9 => h9) rfl dX9_vehicles_61 ?_
          refine va_get (D := D) (ci := 8) (v := .int (cT_gone u4)) (C := RX8) (T := TX8) (N := 7) hx hb hts iX8 hown hK hP 1 rfl rfl 6 (by decide) hf127 (fun _ h9 => h9) rfl dX9_vehicles_64 ?_
          cases h
  · replace ew : u4 = w' := ew
    subst ew
    refine cX_vS (As := [.int y1]) (rest := []) ⟨hx, hb, hml, hown, hts⟩ (kx_X9_needArgument l hl0 D cI cZ ad u y1 hc5) (va_cwS 1 hts (gwS mw_392 mw_393 mw_48 mw_394) rfl rfl rfl (by decide +kernel) ⟨Nat.le_of_ble_eq_true rfl, Nat.le_of_ble_eq_true rfl⟩) hK hP hD hS hA hZ rfl hl.1 rfl (Nat.le_of_ble_eq_true rfl) dX9_vehicles_6 ⟨Nat.le_of_ble_eq_true rfl, Nat.le_of_ble_eq_true rfl⟩ (fun ce q9 H locs hP hD hS h1 h2 h3 => ?_)
    exact cX_back hAe hQ hout hlocks hK rfl hP hD hS h1 h2 h3 (Nat.le_refl _) (Nat.le_refl _)

def rX9_section : Room := { frames := 4, cells := 0, slots := 0, locals := 94 }
set_option maxHeartbeats 4000000 in
set_option maxRecDepth 100000 in
theorem k_X9_section (l : Launch) (D : va_G) (cI cZ : ClassId) (ad : Nat → Nat) (u : GS) (p0 : Int32) (p1 : Int32) {r : Int32} {w' : GS} (h : g_X9_section u p0 p1 = some (.inl r, w')) : MI l yX9_section (wm yX9_section cX9_section 3 (some .int)) rX9_section D [(cI, .int), (cZ, .boolean)] (wC cI cZ ad u) (wC cI cZ ad w') [.ref (ad 0), .int p0, .int p1] r := by
  intro sz
  refine Met.ofW (cc := cX9_section) (maxL := 3) (ret := (some .int)) (by decide) rfl ?_
  intro p e s m args below meth c s₁ B hml hv
  obtain ⟨rfl, hsz, hP, hK, hD0, hZ⟩ := hv
  have hx := B.exec
  have hb := B.bytes
  have hr := B.returns
  have hts : ∀ w ∈ Wall, w.before _ s = true := fun w hw => atoms_spec (ws := wm yX9_section cX9_section 3 (some .int)) B.pre w (List.mem_cons_of_mem _ hw)
  have hown : s.vm.findClass RX9 = some m.cls := findClass_of_methodNamed B.named
  have hlocks := B.notSynchronized
  subst hsz
  have hD := hD0.self (sz := s.heap.size)
  generalize hAe : va_A (wC cI cZ ad u) s.heap.size = A at hD hZ ⊢
  have hA : ∀ q : Nat, s.heap.size ≤ q → A q := fun q h => by rw [← hAe]; exact Or.inr h
  have hS : va_S A s.heap s.heap [] := va_S.rf
  have hf16 := hts _ mw_305
  have hf23 := hts _ mw_306
  have hf30 := hts _ mw_307
  have hf80 := hts _ mw_135
  have hf145 := hts _ mw_85
  have hf149 := hts _ mw_118
  have hl := lv_entry ([.ref (ad 0), .int p0, .int p1]) (n := 3) (Nat.le_of_ble_eq_true rfl)
  rw [lg_entry_eq]
  generalize (lg_sl ([.ref (ad 0), .int p0, .int p1]) ++ List.replicate (3 - (lg_sl ([.ref (ad 0), .int p0, .int p1])).length) Slot.unset).toArray = ls at hl ⊢
  replace hl : lv_has ls 3 [(0, .ref (ad 0)), (1, .int p0), (2, .int p1)] := hl
  refine w_gen (fun Q hQ => ?_)
  refine lv_iload_n hx hb dX9_section_0 rfl (lv_at hl 1 rfl) ?_
  obtain ⟨y1, u2, hc3, h⟩ := gx_xr h
  refine cc_vS (As := [.int p0]) (rest := []) ⟨hx, hb, hml, hown, hts⟩ (k_X9_needSection l D cI cZ ad u p0 hc3) (va_cwS 1 hts (gwS mw_595 mw_596 mw_48 mw_597) rfl rfl rfl (by decide +kernel) ⟨Nat.le_of_ble_eq_true rfl, Nat.le_of_ble_eq_true rfl⟩) hK hP hD hS hA hZ rfl hl.1 rfl (Nat.le_of_ble_eq_true rfl) dX9_section_1 ⟨Nat.zero_le _, Nat.zero_le _⟩ (fun H locs hP hD hS => ?_)
  refine lv_iload_n hx hb dX9_section_4 rfl (lv_at hl 2 rfl) ?_
  refine lv_iconst (v := 0) hx hb dX9_section_5 (by decide) ?_
  refine lv_iconst (v := 5) hx hb dX9_section_6 (by decide) ?_
  obtain ⟨y4, hc5, h⟩ := gx_bind h
  refine cc_iS (As := [.int p1, .int (0 : Int32), .int (5 : Int32)]) (rest := []) ⟨hx, hb, hml, hown, hts⟩ (k_X9_isWithin l D cI cZ ad u2 p1 (0 : Int32) (5 : Int32) hc5) (va_cwS 3 hts (gwS mw_391 mw_273 mw_48 mw_274) rfl rfl rfl (by decide +kernel) ⟨Nat.le_of_ble_eq_true rfl, Nat.le_of_ble_eq_true rfl⟩) hK hP hD hS hA hZ rfl hl.1 rfl (Nat.le_of_ble_eq_true rfl) dX9_section_7 ⟨Nat.zero_le _, Nat.zero_le _⟩ (fun H locs hP hD hS => ?_)
  obtain ⟨y6, u7, hc8, h⟩ := gx_xr h
  refine cc_vS (As := [.int y4]) (rest := []) ⟨hx, hb, hml, hown, hts⟩ (k_X9_needArgument l D cI cZ ad u2 y4 hc8) (va_cwS 1 hts (gwS mw_392 mw_393 mw_48 mw_394) rfl rfl rfl (by decide +kernel) ⟨Nat.le_of_ble_eq_true rfl, Nat.le_of_ble_eq_true rfl⟩) hK hP hD hS hA hZ rfl hl.1 rfl (Nat.le_of_ble_eq_true rfl) dX9_section_10 ⟨Nat.zero_le _, Nat.zero_le _⟩ (fun H locs hP hD hS => ?_)
  refine lv_iload_n hx hb dX9_section_13 rfl (lv_at hl 2 rfl) ?_
  by_cases c14_0 : p1 = 0
  · replace h := gx_t c14_0 h
    refine lv_tableIn (tgt := 48) (off := 34) hx hb dX9_section_14 (by rw [c14_0]; decide) (by rw [c14_0]; decide) (by rw [c14_0]; decide) (by decide) ?_
    refine lv_aload_n hx hb dX9_section_48 rfl (lv_at hl 0 rfl) ?_
    refine va_get (D := D) (ci := 9) (v := .ref (ad 1)) (C := RX9) (T := TX9) (N := 10) hx hb hts iX9 hown hK hP 0 rfl rfl 1 (by decide) hf16 (fun _ h9 => h9) rfl dX9_section_49 ?_
    refine lv_iload_n hx hb dX9_section_52 rfl (lv_at hl 1 rfl) ?_
    obtain ⟨y9, hc10, h⟩ := gx_bind h
    refine cc_iV (As := [.int p0]) (rest := []) ⟨hx, hb, hml, hown, hts⟩ (k_X8_speedAt l D cI cZ ad u7 p0 hc10) (cwV 1 hts (gwV mw_636 mw_369 mw_370 mw_49 mw_371) rfl rfl rfl (by decide +kernel) ⟨Nat.le_of_ble_eq_true rfl, Nat.le_of_ble_eq_true rfl⟩) hK hP hD hS hA hZ (ci := 8) (q0 := 1) rfl rfl rfl hl.1 rfl (Nat.le_of_ble_eq_true rfl) dX9_section_53 ⟨Nat.zero_le _, Nat.zero_le _⟩ (fun H locs hP hD hS => ?_)
    cases h
    exact cc_ret hx hb hr rfl hQ hK hP hD hS rfl dX9_section_56 hlocks
  · replace h := gx_f c14_0 h
    by_cases c14_1 : p1 = 1
    · replace h := gx_t c14_1 h
      refine lv_tableIn (tgt := 57) (off := 43) hx hb dX9_section_14 (by rw [c14_1]; decide) (by rw [c14_1]; decide) (by rw [c14_1]; decide) (by decide) ?_
      refine lv_aload_n hx hb dX9_section_57 rfl (lv_at hl 0 rfl) ?_
      refine va_get (D := D) (ci := 9) (v := .ref (ad 2)) (C := RX9) (T := TX9) (N := 10) hx hb hts iX9 hown hK hP 0 rfl rfl 2 (by decide) hf23 (fun _ h9 => h9) rfl dX9_section_58 ?_
      refine lv_iload_n hx hb dX9_section_61 rfl (lv_at hl 1 rfl) ?_
      refine lv_aload_n hx hb dX9_section_62 rfl (lv_at hl 0 rfl) ?_
      refine va_get (D := D) (ci := 9) (v := .ref (ad 1)) (C := RX9) (T := TX9) (N := 10) hx hb hts iX9 hown hK hP 0 rfl rfl 1 (by decide) hf16 (fun _ h9 => h9) rfl dX9_section_63 ?_
      obtain ⟨y11, hc12, h⟩ := gx_bind h
      refine cc_iV (As := [.int p0, .ref (ad 1)]) (rest := []) ⟨hx, hb, hml, hown, hts⟩ (k_X1_beliefAt l D cI cZ ad u7 p0 hc12) (cwV 2 hts (gwV mw_363 mw_364 mw_365 mw_50 mw_366) rfl rfl rfl (by decide +kernel) ⟨Nat.le_of_ble_eq_true rfl, Nat.le_of_ble_eq_true rfl⟩) hK hP hD hS hA hZ (ci := 1) (q0 := 2) rfl rfl rfl hl.1 rfl (Nat.le_of_ble_eq_true rfl) dX9_section_66 ⟨Nat.zero_le _, Nat.zero_le _⟩ (fun H locs hP hD hS => ?_)
      cases h
      exact cc_ret hx hb hr rfl hQ hK hP hD hS rfl dX9_section_69 hlocks
    · replace h := gx_f c14_1 h
      by_cases c14_2 : p1 = 2
      · replace h := gx_t c14_2 h
        refine lv_tableIn (tgt := 70) (off := 56) hx hb dX9_section_14 (by rw [c14_2]; decide) (by rw [c14_2]; decide) (by rw [c14_2]; decide) (by decide) ?_
        refine lv_aload_n hx hb dX9_section_70 rfl (lv_at hl 0 rfl) ?_
        refine va_get (D := D) (ci := 9) (v := .ref (ad 2)) (C := RX9) (T := TX9) (N := 10) hx hb hts iX9 hown hK hP 0 rfl rfl 2 (by decide) hf23 (fun _ h9 => h9) rfl dX9_section_71 ?_
        refine lv_iload_n hx hb dX9_section_74 rfl (lv_at hl 1 rfl) ?_
        refine lv_aload_n hx hb dX9_section_75 rfl (lv_at hl 0 rfl) ?_
        refine va_get (D := D) (ci := 9) (v := .ref (ad 1)) (C := RX9) (T := TX9) (N := 10) hx hb hts iX9 hown hK hP 0 rfl rfl 1 (by decide) hf16 (fun _ h9 => h9) rfl dX9_section_76 ?_
        obtain ⟨y13, hc14, h⟩ := gx_bind h
        refine cc_iV (As := [.int p0, .ref (ad 1)]) (rest := []) ⟨hx, hb, hml, hown, hts⟩ (k_X1_guessAt l D cI cZ ad u7 p0 hc14) (cwV 2 hts (gwV mw_637 mw_377 mw_378 mw_50 mw_379) rfl rfl rfl (by decide +kernel) ⟨Nat.le_of_ble_eq_true rfl, Nat.le_of_ble_eq_true rfl⟩) hK hP hD hS hA hZ (ci := 1) (q0 := 2) rfl rfl rfl hl.1 rfl (Nat.le_of_ble_eq_true rfl) dX9_section_79 ⟨Nat.zero_le _, Nat.zero_le _⟩ (fun H locs hP hD hS => ?_)
        cases h
        exact cc_ret hx hb hr rfl hQ hK hP hD hS rfl dX9_section_82 hlocks
      · replace h := gx_f c14_2 h
        by_cases c14_3 : p1 = 3
        · replace h := gx_t c14_3 h
          refine lv_tableIn (tgt := 83) (off := 69) hx hb dX9_section_14 (by rw [c14_3]; decide) (by rw [c14_3]; decide) (by rw [c14_3]; decide) (by decide) ?_
          refine lv_aload_n hx hb dX9_section_83 rfl (lv_at hl 0 rfl) ?_
          refine va_get (D := D) (ci := 9) (v := .ref (ad 3)) (C := RX9) (T := TX9) (N := 10) hx hb hts iX9 hown hK hP 0 rfl rfl 3 (by decide) hf30 (fun _ h9 => h9) rfl dX9_section_84 ?_
          refine va_get (D := D) (ci := 7) (v := .ref (ad 16)) (C := RX7) (T := TX7) (N := 4) hx hb hts iX7 hown hK hP 3 rfl rfl 1 (by decide) hf80 (fun _ h9 => h9) rfl dX9_section_87 ?_
          refine lv_iload_n hx hb dX9_section_90 rfl (lv_at hl 1 rfl) ?_
          obtain ⟨b15, h⟩ := gx_in h
          refine va_iald (D := D) hx hb hK hP 16 0 rfl rfl b15 dX9_section_91 ?_
          cases h
          exact cc_ret hx hb hr rfl hQ hK hP hD hS rfl dX9_section_92 hlocks
        · replace h := gx_f c14_3 h
          by_cases c14_4 : p1 = 4
          · replace h := gx_t c14_4 h
            refine lv_tableIn (tgt := 93) (off := 79) hx hb dX9_section_14 (by rw [c14_4]; decide) (by rw [c14_4]; decide) (by rw [c14_4]; decide) (by decide) ?_
            refine lv_aload_n hx hb dX9_section_93 rfl (lv_at hl 0 rfl) ?_
            refine va_get (D := D) (ci := 9) (v := .ref (ad 1)) (C := RX9) (T := TX9) (N := 10) hx hb hts iX9 hown hK hP 0 rfl rfl 1 (by decide) hf16 (fun _ h9 => h9) rfl dX9_section_94 ?_
            refine va_get (D := D) (ci := 8) (v := .ref (ad 12)) (C := RX8) (T := TX8) (N := 7) hx hb hts iX8 hown hK hP 1 rfl rfl 2 (by decide) hf145 (fun _ h9 => h9) rfl dX9_section_97 ?_
            refine lv_iload_n hx hb dX9_section_100 rfl (lv_at hl 1 rfl) ?_
            obtain ⟨b16, h⟩ := gx_in h
            refine va_zald (D := D) hx hb hK hP 12 1 rfl rfl b16 dX9_section_101 ?_
            refine lv_if_eq (tgt := 109) hx hb dX9_section_102 (by decide) (fun c17 => ?_) (fun c17 => ?_)
            · replace h := gx_t c17 h
              refine lv_iconst (v := 0) hx hb dX9_section_109 (by decide) ?_
              cases h
              exact cc_ret hx hb hr rfl hQ hK hP hD hS rfl dX9_section_110 hlocks
            · replace h := gx_f c17 h
              refine lv_iconst (v := 1) hx hb dX9_section_105 (by decide) ?_
              refine lv_goto (tgt := 110) hx hb dX9_section_106 (by decide) ?_
              cases h
              exact cc_ret hx hb hr rfl hQ hK hP hD hS rfl dX9_section_110 hlocks
          · replace h := gx_f c14_4 h
            have t14_0 := gx_sw0 (n := 0) rfl c14_0
            have t14_1 := gx_sw0 (n := 1) rfl c14_1
            have t14_2 := gx_sw0 (n := 2) rfl c14_2
            have t14_3 := gx_sw0 (n := 3) rfl c14_3
            have t14_4 := gx_sw0 (n := 4) rfl c14_4
            refine lv_tableOut (tgt := 111) hx hb dX9_section_14 (by omega) (by decide) ?_
            refine lv_aload_n hx hb dX9_section_111 rfl (lv_at hl 0 rfl) ?_
            refine va_get (D := D) (ci := 9) (v := .ref (ad 2)) (C := RX9) (T := TX9) (N := 10) hx hb hts iX9 hown hK hP 0 rfl rfl 2 (by decide) hf23 (fun _ h9 => h9) rfl dX9_section_112 ?_
            refine va_get (D := D) (ci := 1) (v := .ref (ad 13)) (C := RX1) (T := TX1) (N := 2) hx hb hts iX1 hown hK hP 2 rfl rfl 0 (by decide) hf149 (fun _ h9 => h9) rfl dX9_section_115 ?_
            refine lv_iload_n hx hb dX9_section_118 rfl (lv_at hl 1 rfl) ?_
            obtain ⟨b18, h⟩ := gx_in h
            refine va_iald (D := D) hx hb hK hP 13 0 rfl rfl b18 dX9_section_119 ?_
            cases h
            exact cc_ret hx hb hr rfl hQ hK hP hD hS rfl dX9_section_120 hlocks

def rx_X9_section : Room := { frames := 8, cells := 1, slots := 6, locals := 130 }
set_option maxHeartbeats 4000000 in
set_option maxRecDepth 100000 in
theorem kx_X9_section (l : Launch) (hl0 : l.stackTraces = false) (D : va_G) (cI cZ : ClassId) (ad : Nat → Nat) (u : GS) (p0 : Int32) (p1 : Int32) {E : String} {w' : GS} (h : g_X9_section u p0 p1 = some (.inr E, w')) : XI l yX9_section (wm yX9_section cX9_section 3 (some .int)) rx_X9_section D [(cI, .int), (cZ, .boolean)] (wC cI cZ ad u) (wC cI cZ ad w') [.ref (ad 0), .int p0, .int p1] E := by
  intro sz
  refine vx_ofW (cc := cX9_section) (maxL := 3) (ret := (some .int)) (by decide) rfl ?_
  intro p e s m args below meth c s₁ B hml hout hv
  obtain ⟨rfl, hsz, hP, hK, hD0, hZ⟩ := hv
  have hx := B.exec
  have hb := B.bytes
  have hts : ∀ w ∈ Wall, w.before _ s = true := fun w hw => atoms_spec (ws := wm yX9_section cX9_section 3 (some .int)) B.pre w (List.mem_cons_of_mem _ hw)
  have hown : s.vm.findClass RX9 = some m.cls := findClass_of_methodNamed B.named
  have hlocks := B.notSynchronized
  subst hsz
  have hD := hD0.self (sz := s.heap.size)
  generalize hAe : va_A (wC cI cZ ad u) s.heap.size = A at hD hZ
  have hA : ∀ q : Nat, s.heap.size ≤ q → A q := fun q h => by rw [← hAe]; exact Or.inr h
  have hS : va_S A s.heap s.heap [] := va_S.rf
  have hf16 := hts _ mw_305
  have hf23 := hts _ mw_306
  have hf30 := hts _ mw_307
  have hf80 := hts _ mw_135
  have hf145 := hts _ mw_85
  have hf149 := hts _ mw_118
  have hl := lv_entry ([.ref (ad 0), .int p0, .int p1]) (n := 3) (Nat.le_of_ble_eq_true rfl)
  rw [lg_entry_eq]
  generalize (lg_sl ([.ref (ad 0), .int p0, .int p1]) ++ List.replicate (3 - (lg_sl ([.ref (ad 0), .int p0, .int p1])).length) Slot.unset).toArray = ls at hl ⊢
  replace hl : lv_has ls 3 [(0, .ref (ad 0)), (1, .int p0), (2, .int p1)] := hl
  refine w_gen (fun Q hQ => ?_)
  refine lv_iload_n hx hb dX9_section_0 rfl (lv_at hl 1 rfl) ?_
  rcases gx_xx h with ⟨y1, u2, hc3, h⟩ | ⟨u2, hc3, ew⟩
  · refine cc_vS (As := [.int p0]) (rest := []) ⟨hx, hb, hml, hown, hts⟩ (k_X9_needSection l D cI cZ ad u p0 hc3) (va_cwS 1 hts (gwS mw_595 mw_596 mw_48 mw_597) rfl rfl rfl (by decide +kernel) ⟨Nat.le_of_ble_eq_true rfl, Nat.le_of_ble_eq_true rfl⟩) hK hP hD hS hA hZ rfl hl.1 rfl (Nat.le_of_ble_eq_true rfl) dX9_section_1 ⟨Nat.zero_le _, Nat.zero_le _⟩ (fun H locs hP hD hS => ?_)
    refine lv_iload_n hx hb dX9_section_4 rfl (lv_at hl 2 rfl) ?_
    refine lv_iconst (v := 0) hx hb dX9_section_5 (by decide) ?_
    refine lv_iconst (v := 5) hx hb dX9_section_6 (by decide) ?_
    obtain ⟨y4, hc5, h⟩ := gx_bind h
    refine cc_iS (As := [.int p1, .int (0 : Int32), .int (5 : Int32)]) (rest := []) ⟨hx, hb, hml, hown, hts⟩ (k_X9_isWithin l D cI cZ ad u2 p1 (0 : Int32) (5 : Int32) hc5) (va_cwS 3 hts (gwS mw_391 mw_273 mw_48 mw_274) rfl rfl rfl (by decide +kernel) ⟨Nat.le_of_ble_eq_true rfl, Nat.le_of_ble_eq_true rfl⟩) hK hP hD hS hA hZ rfl hl.1 rfl (Nat.le_of_ble_eq_true rfl) dX9_section_7 ⟨Nat.zero_le _, Nat.zero_le _⟩ (fun H locs hP hD hS => ?_)
    rcases gx_xx h with ⟨y6, u7, hc8, h⟩ | ⟨u7, hc8, ew⟩
    · refine cc_vS (As := [.int y4]) (rest := []) ⟨hx, hb, hml, hown, hts⟩ (k_X9_needArgument l D cI cZ ad u2 y4 hc8) (va_cwS 1 hts (gwS mw_392 mw_393 mw_48 mw_394) rfl rfl rfl (by decide +kernel) ⟨Nat.le_of_ble_eq_true rfl, Nat.le_of_ble_eq_true rfl⟩) hK hP hD hS hA hZ rfl hl.1 rfl (Nat.le_of_ble_eq_true rfl) dX9_section_10 ⟨Nat.zero_le _, Nat.zero_le _⟩ (fun H locs hP hD hS => ?_)
      refine lv_iload_n hx hb dX9_section_13 rfl (lv_at hl 2 rfl) ?_
      by_cases c14_0 : p1 = 0
      · replace h := gx_t c14_0 h
        refine lv_tableIn (tgt := 48) (off := 34) hx hb dX9_section_14 (by rw [c14_0]; decide) (by rw [c14_0]; decide) (by rw [c14_0]; decide) (by decide) ?_
        refine lv_aload_n hx hb dX9_section_48 rfl (lv_at hl 0 rfl) ?_
        refine va_get (D := D) (ci := 9) (v := .ref (ad 1)) (C := RX9) (T := TX9) (N := 10) hx hb hts iX9 hown hK hP 0 rfl rfl 1 (by decide) hf16 (fun _ h9 => h9) rfl dX9_section_49 ?_
        refine lv_iload_n hx hb dX9_section_52 rfl (lv_at hl 1 rfl) ?_
        obtain ⟨y9, hc10, h⟩ := gx_bind h
        refine cc_iV (As := [.int p0]) (rest := []) ⟨hx, hb, hml, hown, hts⟩ (k_X8_speedAt l D cI cZ ad u7 p0 hc10) (cwV 1 hts (gwV mw_636 mw_369 mw_370 mw_49 mw_371) rfl rfl rfl (by decide +kernel) ⟨Nat.le_of_ble_eq_true rfl, Nat.le_of_ble_eq_true rfl⟩) hK hP hD hS hA hZ (ci := 8) (q0 := 1) rfl rfl rfl hl.1 rfl (Nat.le_of_ble_eq_true rfl) dX9_section_53 ⟨Nat.zero_le _, Nat.zero_le _⟩ (fun H locs hP hD hS => ?_)
        cases h
      · replace h := gx_f c14_0 h
        by_cases c14_1 : p1 = 1
        · replace h := gx_t c14_1 h
          refine lv_tableIn (tgt := 57) (off := 43) hx hb dX9_section_14 (by rw [c14_1]; decide) (by rw [c14_1]; decide) (by rw [c14_1]; decide) (by decide) ?_
          refine lv_aload_n hx hb dX9_section_57 rfl (lv_at hl 0 rfl) ?_
          refine va_get (D := D) (ci := 9) (v := .ref (ad 2)) (C := RX9) (T := TX9) (N := 10) hx hb hts iX9 hown hK hP 0 rfl rfl 2 (by decide) hf23 (fun _ h9 => h9) rfl dX9_section_58 ?_
          refine lv_iload_n hx hb dX9_section_61 rfl (lv_at hl 1 rfl) ?_
          refine lv_aload_n hx hb dX9_section_62 rfl (lv_at hl 0 rfl) ?_
          refine va_get (D := D) (ci := 9) (v := .ref (ad 1)) (C := RX9) (T := TX9) (N := 10) hx hb hts iX9 hown hK hP 0 rfl rfl 1 (by decide) hf16 (fun _ h9 => h9) rfl dX9_section_63 ?_
          obtain ⟨y11, hc12, h⟩ := gx_bind h
          refine cc_iV (As := [.int p0, .ref (ad 1)]) (rest := []) ⟨hx, hb, hml, hown, hts⟩ (k_X1_beliefAt l D cI cZ ad u7 p0 hc12) (cwV 2 hts (gwV mw_363 mw_364 mw_365 mw_50 mw_366) rfl rfl rfl (by decide +kernel) ⟨Nat.le_of_ble_eq_true rfl, Nat.le_of_ble_eq_true rfl⟩) hK hP hD hS hA hZ (ci := 1) (q0 := 2) rfl rfl rfl hl.1 rfl (Nat.le_of_ble_eq_true rfl) dX9_section_66 ⟨Nat.zero_le _, Nat.zero_le _⟩ (fun H locs hP hD hS => ?_)
          cases h
        · replace h := gx_f c14_1 h
          by_cases c14_2 : p1 = 2
          · replace h := gx_t c14_2 h
            refine lv_tableIn (tgt := 70) (off := 56) hx hb dX9_section_14 (by rw [c14_2]; decide) (by rw [c14_2]; decide) (by rw [c14_2]; decide) (by decide) ?_
            refine lv_aload_n hx hb dX9_section_70 rfl (lv_at hl 0 rfl) ?_
            refine va_get (D := D) (ci := 9) (v := .ref (ad 2)) (C := RX9) (T := TX9) (N := 10) hx hb hts iX9 hown hK hP 0 rfl rfl 2 (by decide) hf23 (fun _ h9 => h9) rfl dX9_section_71 ?_
            refine lv_iload_n hx hb dX9_section_74 rfl (lv_at hl 1 rfl) ?_
            refine lv_aload_n hx hb dX9_section_75 rfl (lv_at hl 0 rfl) ?_
            refine va_get (D := D) (ci := 9) (v := .ref (ad 1)) (C := RX9) (T := TX9) (N := 10) hx hb hts iX9 hown hK hP 0 rfl rfl 1 (by decide) hf16 (fun _ h9 => h9) rfl dX9_section_76 ?_
            obtain ⟨y13, hc14, h⟩ := gx_bind h
            refine cc_iV (As := [.int p0, .ref (ad 1)]) (rest := []) ⟨hx, hb, hml, hown, hts⟩ (k_X1_guessAt l D cI cZ ad u7 p0 hc14) (cwV 2 hts (gwV mw_637 mw_377 mw_378 mw_50 mw_379) rfl rfl rfl (by decide +kernel) ⟨Nat.le_of_ble_eq_true rfl, Nat.le_of_ble_eq_true rfl⟩) hK hP hD hS hA hZ (ci := 1) (q0 := 2) rfl rfl rfl hl.1 rfl (Nat.le_of_ble_eq_true rfl) dX9_section_79 ⟨Nat.zero_le _, Nat.zero_le _⟩ (fun H locs hP hD hS => ?_)
            cases h
          · replace h := gx_f c14_2 h
            by_cases c14_3 : p1 = 3
            · replace h := gx_t c14_3 h
              refine lv_tableIn (tgt := 83) (off := 69) hx hb dX9_section_14 (by rw [c14_3]; decide) (by rw [c14_3]; decide) (by rw [c14_3]; decide) (by decide) ?_
              refine lv_aload_n hx hb dX9_section_83 rfl (lv_at hl 0 rfl) ?_
              refine va_get (D := D) (ci := 9) (v := .ref (ad 3)) (C := RX9) (T := TX9) (N := 10) hx hb hts iX9 hown hK hP 0 rfl rfl 3 (by decide) hf30 (fun _ h9 => h9) rfl dX9_section_84 ?_
              refine va_get (D := D) (ci := 7) (v := .ref (ad 16)) (C := RX7) (T := TX7) (N := 4) hx hb hts iX7 hown hK hP 3 rfl rfl 1 (by decide) hf80 (fun _ h9 => h9) rfl dX9_section_87 ?_
              refine lv_iload_n hx hb dX9_section_90 rfl (lv_at hl 1 rfl) ?_
              obtain ⟨b15, h⟩ := gx_in h
              refine va_iald (D := D) hx hb hK hP 16 0 rfl rfl b15 dX9_section_91 ?_
              cases h
            · replace h := gx_f c14_3 h
              by_cases c14_4 : p1 = 4
              · replace h := gx_t c14_4 h
                refine lv_tableIn (tgt := 93) (off := 79) hx hb dX9_section_14 (by rw [c14_4]; decide) (by rw [c14_4]; decide) (by rw [c14_4]; decide) (by decide) ?_
                refine lv_aload_n hx hb dX9_section_93 rfl (lv_at hl 0 rfl) ?_
                refine va_get (D := D) (ci := 9) (v := .ref (ad 1)) (C := RX9) (T := TX9) (N := 10) hx hb hts iX9 hown hK hP 0 rfl rfl 1 (by decide) hf16 (fun _ h9 => h9) rfl dX9_section_94 ?_
                refine va_get (D := D) (ci := 8) (v := .ref (ad 12)) (C := RX8) (T := TX8) (N := 7) hx hb hts iX8 hown hK hP 1 rfl rfl 2 (by decide) hf145 (fun _ h9 => h9) rfl dX9_section_97 ?_
                refine lv_iload_n hx hb dX9_section_100 rfl (lv_at hl 1 rfl) ?_
                obtain ⟨b16, h⟩ := gx_in h
                refine va_zald (D := D) hx hb hK hP 12 1 rfl rfl b16 dX9_section_101 ?_
                refine lv_if_eq (tgt := 109) hx hb dX9_section_102 (by decide) (fun c17 => ?_) (fun c17 => ?_)
                · replace h := gx_t c17 h
                  refine lv_iconst (v := 0) hx hb dX9_section_109 (by decide) ?_
                  cases h
                · replace h := gx_f c17 h
                  refine lv_iconst (v := 1) hx hb dX9_section_105 (by decide) ?_
                  refine lv_goto (tgt := 110) hx hb dX9_section_106 (by decide) ?_
                  cases h
              · replace h := gx_f c14_4 h
                have t14_0 := gx_sw0 (n := 0) rfl c14_0
                have t14_1 := gx_sw0 (n := 1) rfl c14_1
                have t14_2 := gx_sw0 (n := 2) rfl c14_2
                have t14_3 := gx_sw0 (n := 3) rfl c14_3
                have t14_4 := gx_sw0 (n := 4) rfl c14_4
                refine lv_tableOut (tgt := 111) hx hb dX9_section_14 (by omega) (by decide) ?_
                refine lv_aload_n hx hb dX9_section_111 rfl (lv_at hl 0 rfl) ?_
                refine va_get (D := D) (ci := 9) (v := .ref (ad 2)) (C := RX9) (T := TX9) (N := 10) hx hb hts iX9 hown hK hP 0 rfl rfl 2 (by decide) hf23 (fun _ h9 => h9) rfl dX9_section_112 ?_
                refine va_get (D := D) (ci := 1) (v := .ref (ad 13)) (C := RX1) (T := TX1) (N := 2) hx hb hts iX1 hown hK hP 2 rfl rfl 0 (by decide) hf149 (fun _ h9 => h9) rfl dX9_section_115 ?_
                refine lv_iload_n hx hb dX9_section_118 rfl (lv_at hl 1 rfl) ?_
                obtain ⟨b18, h⟩ := gx_in h
                refine va_iald (D := D) hx hb hK hP 13 0 rfl rfl b18 dX9_section_119 ?_
                cases h
    · replace ew : u7 = w' := ew
      subst ew
      refine cX_vS (As := [.int y4]) (rest := []) ⟨hx, hb, hml, hown, hts⟩ (kx_X9_needArgument l hl0 D cI cZ ad u2 y4 hc8) (va_cwS 1 hts (gwS mw_392 mw_393 mw_48 mw_394) rfl rfl rfl (by decide +kernel) ⟨Nat.le_of_ble_eq_true rfl, Nat.le_of_ble_eq_true rfl⟩) hK hP hD hS hA hZ rfl hl.1 rfl (Nat.le_of_ble_eq_true rfl) dX9_section_10 ⟨Nat.le_of_ble_eq_true rfl, Nat.le_of_ble_eq_true rfl⟩ (fun ce q9 H locs hP hD hS h1 h2 h3 => ?_)
      exact cX_back hAe hQ hout hlocks hK rfl hP hD hS h1 h2 h3 (Nat.le_refl _) (Nat.le_refl _)
  · replace ew : u2 = w' := ew
    subst ew
    refine cX_vS (As := [.int p0]) (rest := []) ⟨hx, hb, hml, hown, hts⟩ (kx_X9_needSection l hl0 D cI cZ ad u p0 hc3) (va_cwS 1 hts (gwS mw_595 mw_596 mw_48 mw_597) rfl rfl rfl (by decide +kernel) ⟨Nat.le_of_ble_eq_true rfl, Nat.le_of_ble_eq_true rfl⟩) hK hP hD hS hA hZ rfl hl.1 rfl (Nat.le_of_ble_eq_true rfl) dX9_section_1 ⟨Nat.le_of_ble_eq_true rfl, Nat.le_of_ble_eq_true rfl⟩ (fun ce q9 H locs hP hD hS h1 h2 h3 => ?_)
    exact cX_back hAe hQ hout hlocks hK rfl hP hD hS h1 h2 h3 (Nat.le_refl _) (Nat.le_refl _)

def rX9_detector : Room := { frames := 2, cells := 0, slots := 0, locals := 42 }
set_option maxHeartbeats 4000000 in
set_option maxRecDepth 100000 in
theorem k_X9_detector (l : Launch) (D : va_G) (cI cZ : ClassId) (ad : Nat → Nat) (u : GS) (p0 : Int32) (p1 : Int32) (p2 : Int32) {r : Int32} {w' : GS} (h : g_X9_detector u p0 p1 p2 = some (.inl r, w')) : MI l yX9_detector (wm yX9_detector cX9_detector 5 (some .int)) rX9_detector D [(cI, .int), (cZ, .boolean)] (wC cI cZ ad u) (wC cI cZ ad w') [.ref (ad 0), .int p0, .int p1, .int p2] r := by
  intro sz
  refine Met.ofW (cc := cX9_detector) (maxL := 5) (ret := (some .int)) (by decide) rfl ?_
  intro p e s m args below meth c s₁ B hml hv
  obtain ⟨rfl, hsz, hP, hK, hD0, hZ⟩ := hv
  have hx := B.exec
  have hb := B.bytes
  have hr := B.returns
  have hts : ∀ w ∈ Wall, w.before _ s = true := fun w hw => atoms_spec (ws := wm yX9_detector cX9_detector 5 (some .int)) B.pre w (List.mem_cons_of_mem _ hw)
  have hown : s.vm.findClass RX9 = some m.cls := findClass_of_methodNamed B.named
  have hlocks := B.notSynchronized
  subst hsz
  have hD := hD0.self (sz := s.heap.size)
  generalize hAe : va_A (wC cI cZ ad u) s.heap.size = A at hD hZ ⊢
  have hA : ∀ q : Nat, s.heap.size ≤ q → A q := fun q h => by rw [← hAe]; exact Or.inr h
  have hS : va_S A s.heap s.heap [] := va_S.rf
  have hf23 := hts _ mw_306
  have hf149 := hts _ mw_118
  have hf152 := hts _ mw_120
  have hl := lv_entry ([.ref (ad 0), .int p0, .int p1, .int p2]) (n := 5) (Nat.le_of_ble_eq_true rfl)
  rw [lg_entry_eq]
  generalize (lg_sl ([.ref (ad 0), .int p0, .int p1, .int p2]) ++ List.replicate (5 - (lg_sl ([.ref (ad 0), .int p0, .int p1, .int p2])).length) Slot.unset).toArray = ls at hl ⊢
  replace hl : lv_has ls 5 [(0, .ref (ad 0)), (1, .int p0), (2, .int p1), (3, .int p2)] := hl
  refine w_gen (fun Q hQ => ?_)
  refine lv_iload_n hx hb dX9_detector_0 rfl (lv_at hl 1 rfl) ?_
  obtain ⟨y1, u2, hc3, h⟩ := gx_xr h
  refine cc_vS (As := [.int p0]) (rest := []) ⟨hx, hb, hml, hown, hts⟩ (k_X9_needSection l D cI cZ ad u p0 hc3) (va_cwS 1 hts (gwS mw_595 mw_596 mw_48 mw_597) rfl rfl rfl (by decide +kernel) ⟨Nat.le_of_ble_eq_true rfl, Nat.le_of_ble_eq_true rfl⟩) hK hP hD hS hA hZ rfl hl.1 rfl (Nat.le_of_ble_eq_true rfl) dX9_detector_1 ⟨Nat.zero_le _, Nat.zero_le _⟩ (fun H locs hP hD hS => ?_)
  refine lv_iload_n hx hb dX9_detector_4 rfl (lv_at hl 2 rfl) ?_
  refine lv_iconst (v := 0) hx hb dX9_detector_5 (by decide) ?_
  refine lv_iconst (v := 2) hx hb dX9_detector_6 (by decide) ?_
  obtain ⟨y4, hc5, h⟩ := gx_bind h
  refine cc_iS (As := [.int p1, .int (0 : Int32), .int (2 : Int32)]) (rest := []) ⟨hx, hb, hml, hown, hts⟩ (k_X9_isWithin l D cI cZ ad u2 p1 (0 : Int32) (2 : Int32) hc5) (va_cwS 3 hts (gwS mw_391 mw_273 mw_48 mw_274) rfl rfl rfl (by decide +kernel) ⟨Nat.le_of_ble_eq_true rfl, Nat.le_of_ble_eq_true rfl⟩) hK hP hD hS hA hZ rfl hl.1 rfl (Nat.le_of_ble_eq_true rfl) dX9_detector_7 ⟨Nat.zero_le _, Nat.zero_le _⟩ (fun H locs hP hD hS => ?_)
  obtain ⟨y6, u7, hc8, h⟩ := gx_xr h
  refine cc_vS (As := [.int y4]) (rest := []) ⟨hx, hb, hml, hown, hts⟩ (k_X9_needArgument l D cI cZ ad u2 y4 hc8) (va_cwS 1 hts (gwS mw_392 mw_393 mw_48 mw_394) rfl rfl rfl (by decide +kernel) ⟨Nat.le_of_ble_eq_true rfl, Nat.le_of_ble_eq_true rfl⟩) hK hP hD hS hA hZ rfl hl.1 rfl (Nat.le_of_ble_eq_true rfl) dX9_detector_10 ⟨Nat.zero_le _, Nat.zero_le _⟩ (fun H locs hP hD hS => ?_)
  refine lv_iload_n hx hb dX9_detector_13 rfl (lv_at hl 2 rfl) ?_
  refine lv_iconst (v := 1) hx hb dX9_detector_14 (by decide) ?_
  obtain ⟨j33_9, ej33_9, h⟩ := gx_let h
  have hj33_9 : ∀ (z0_33 : Int32) (H : Heap) (locs : List Loc) (ls : Array Slot), j33_9 z0_33 = some (.inl r, w') → va_P D vwCl (wC cI cZ ad u7) H → va_D A (wC cI cZ ad u7) → va_S A s.heap H locs → lv_has ls 5 [(0, .ref (ad 0)), (1, .int p0), (2, .int p1), (3, .int p2)] → W p l e rX9_detector s m ([.ref (ad 0), .int p0, .int p1, .int p2] : List Value).toArray below meth c H locs 0 0 Q (F0 m 33 ls [.int z0_33]) := by
    intro z0_33 H locs ls h hP hD hS hl
    subst ej33_9
    obtain ⟨y10, u11, hc12, h⟩ := gx_xr h
    refine cc_vS (As := [.int z0_33]) (rest := []) ⟨hx, hb, hml, hown, hts⟩ (k_X9_needArgument l D cI cZ ad u7 z0_33 hc12) (va_cwS 1 hts (gwS mw_392 mw_393 mw_48 mw_394) rfl rfl rfl (by decide +kernel) ⟨Nat.le_of_ble_eq_true rfl, Nat.le_of_ble_eq_true rfl⟩) hK hP hD hS hA hZ rfl hl.1 rfl (Nat.le_of_ble_eq_true rfl) dX9_detector_33 ⟨Nat.zero_le _, Nat.zero_le _⟩ (fun H locs hP hD hS => ?_)
    refine lv_aload_n hx hb dX9_detector_36 rfl (lv_at hl 0 rfl) ?_
    refine va_get (D := D) (ci := 9) (v := .ref (ad 2)) (C := RX9) (T := TX9) (N := 10) hx hb hts iX9 hown hK hP 0 rfl rfl 2 (by decide) hf23 (fun _ h9 => h9) rfl dX9_detector_37 ?_
    refine va_get (D := D) (ci := 1) (v := .ref (ad 13)) (C := RX1) (T := TX1) (N := 2) hx hb hts iX1 hown hK hP 2 rfl rfl 0 (by decide) hf149 (fun _ h9 => h9) rfl dX9_detector_40 ?_
    refine lv_iload_n hx hb dX9_detector_43 rfl (lv_at hl 1 rfl) ?_
    obtain ⟨b13, h⟩ := gx_in h
    refine va_iald (D := D) hx hb hK hP 13 0 rfl rfl b13 dX9_detector_44 ?_
    obtain ⟨v14, ev14, h⟩ := gx_let h
    refine lv_topn ev14 ?_
    refine lv_istore (lv' := [(4, .int v14), (0, .ref (ad 0)), (1, .int p0), (2, .int p1), (3, .int p2)]) hx hb dX9_detector_45 hl (by decide) rfl (fun ls hl => ?_)
    refine lv_aload_n hx hb dX9_detector_47 rfl (lv_at hl 1 rfl) ?_
    refine va_get (D := D) (ci := 9) (v := .ref (ad 2)) (C := RX9) (T := TX9) (N := 10) hx hb hts iX9 hown hK hP 0 rfl rfl 2 (by decide) hf23 (fun _ h9 => h9) rfl dX9_detector_48 ?_
    refine va_get (D := D) (ci := 1) (v := .ref (ad 13)) (C := RX1) (T := TX1) (N := 2) hx hb hts iX1 hown hK hP 2 rfl rfl 0 (by decide) hf149 (fun _ h9 => h9) rfl dX9_detector_51 ?_
    refine lv_iload_n hx hb dX9_detector_54 rfl (lv_at hl 2 rfl) ?_
    refine lv_iload_n hx hb dX9_detector_55 rfl (lv_at hl 3 rfl) ?_
    obtain ⟨b15, h⟩ := gx_in h
    refine va_iast (D := D) hx hb hK hP hD hS 13 0 rfl rfl b15 dX9_detector_56 (fun H locs hP hD hS => ?_)
    obtain ⟨u16, eu16, h⟩ := gx_let h
    replace hP : va_P D vwCl (wC cI cZ ad u16) H := by rw [← eu16]; exact hP
    replace hD : va_D A (wC cI cZ ad u16) := by rw [← eu16]; exact hD
    refine lv_aload_n hx hb dX9_detector_57 rfl (lv_at hl 1 rfl) ?_
    refine va_get (D := D) (ci := 9) (v := .ref (ad 2)) (C := RX9) (T := TX9) (N := 10) hx hb hts iX9 hown hK hP 0 rfl rfl 2 (by decide) hf23 (fun _ h9 => h9) rfl dX9_detector_58 ?_
    refine va_get (D := D) (ci := 1) (v := .ref (ad 14)) (C := RX1) (T := TX1) (N := 2) hx hb hts iX1 hown hK hP 2 rfl rfl 1 (by decide) hf152 (fun _ h9 => h9) rfl dX9_detector_61 ?_
    refine lv_iload_n hx hb dX9_detector_64 rfl (lv_at hl 2 rfl) ?_
    refine lv_iload_n hx hb dX9_detector_65 rfl (lv_at hl 4 rfl) ?_
    obtain ⟨b17, h⟩ := gx_in h
    refine va_iast (D := D) hx hb hK hP hD hS 14 0 rfl rfl b17 dX9_detector_66 (fun H locs hP hD hS => ?_)
    obtain ⟨u18, eu18, h⟩ := gx_let h
    replace hP : va_P D vwCl (wC cI cZ ad u18) H := by rw [← eu18]; exact hP
    replace hD : va_D A (wC cI cZ ad u18) := by rw [← eu18]; exact hD
    refine lv_iload hx hb dX9_detector_67 (lv_at hl 0 rfl) ?_
    cases h
    exact cc_ret hx hb hr rfl hQ hK hP hD hS rfl dX9_detector_69 hlocks
  obtain ⟨j28_19, ej28_19, h⟩ := gx_let h
  have hj28_19 : ∀ (H : Heap) (locs : List Loc) (ls : Array Slot), j28_19 () = some (.inl r, w') → va_P D vwCl (wC cI cZ ad u7) H → va_D A (wC cI cZ ad u7) → va_S A s.heap H locs → lv_has ls 5 [(0, .ref (ad 0)), (1, .int p0), (2, .int p1), (3, .int p2)] → W p l e rX9_detector s m ([.ref (ad 0), .int p0, .int p1, .int p2] : List Value).toArray below meth c H locs 0 0 Q (F0 m 28 ls []) := by
    intro  H locs ls h hP hD hS hl
    subst ej28_19
    refine lv_iconst (v := 1) hx hb dX9_detector_28 (by decide) ?_
    refine lv_goto (tgt := 33) hx hb dX9_detector_29 (by decide) ?_
    exact hj33_9 (1 : Int32) _ _ _ h hP hD hS (lv_sub hl [0, 1, 2, 3] rfl)
  refine lv_icmp_ne (tgt := 28) hx hb dX9_detector_15 (by decide) (fun c20 => ?_) (fun c20 => ?_)
  · replace h := gx_f c20 h
    exact hj28_19 _ _ _ h hP hD hS (lv_sub hl [0, 1, 2, 3] rfl)
  · replace h := gx_t c20 h
    refine lv_iload_n hx hb dX9_detector_18 rfl (lv_at hl 3 rfl) ?_
    refine lv_iconst (v := 0) hx hb dX9_detector_19 (by decide) ?_
    refine lv_bipush (v := 120) hx hb dX9_detector_20 (by decide) ?_
    obtain ⟨y21, hc22, h⟩ := gx_bind h
    refine cc_iS (As := [.int p2, .int (0 : Int32), .int (120 : Int32)]) (rest := []) ⟨hx, hb, hml, hown, hts⟩ (k_X9_isWithin l D cI cZ ad u7 p2 (0 : Int32) (120 : Int32) hc22) (va_cwS 3 hts (gwS mw_391 mw_273 mw_48 mw_274) rfl rfl rfl (by decide +kernel) ⟨Nat.le_of_ble_eq_true rfl, Nat.le_of_ble_eq_true rfl⟩) hK hP hD hS hA hZ rfl hl.1 rfl (Nat.le_of_ble_eq_true rfl) dX9_detector_22 ⟨Nat.zero_le _, Nat.zero_le _⟩ (fun H locs hP hD hS => ?_)
    refine lv_if_eq (tgt := 32) hx hb dX9_detector_25 (by decide) (fun c23 => ?_) (fun c23 => ?_)
    · replace h := gx_t c23 h
      refine lv_iconst (v := 0) hx hb dX9_detector_32 (by decide) ?_
      exact hj33_9 (0 : Int32) _ _ _ h hP hD hS (lv_sub hl [0, 1, 2, 3] rfl)
    · replace h := gx_f c23 h
      exact hj28_19 _ _ _ h hP hD hS (lv_sub hl [0, 1, 2, 3] rfl)

def rx_X9_detector : Room := { frames := 8, cells := 1, slots := 6, locals := 130 }
set_option maxHeartbeats 4000000 in
set_option maxRecDepth 100000 in
theorem kx_X9_detector (l : Launch) (hl0 : l.stackTraces = false) (D : va_G) (cI cZ : ClassId) (ad : Nat → Nat) (u : GS) (p0 : Int32) (p1 : Int32) (p2 : Int32) {E : String} {w' : GS} (h : g_X9_detector u p0 p1 p2 = some (.inr E, w')) : XI l yX9_detector (wm yX9_detector cX9_detector 5 (some .int)) rx_X9_detector D [(cI, .int), (cZ, .boolean)] (wC cI cZ ad u) (wC cI cZ ad w') [.ref (ad 0), .int p0, .int p1, .int p2] E := by
  intro sz
  refine vx_ofW (cc := cX9_detector) (maxL := 5) (ret := (some .int)) (by decide) rfl ?_
  intro p e s m args below meth c s₁ B hml hout hv
  obtain ⟨rfl, hsz, hP, hK, hD0, hZ⟩ := hv
  have hx := B.exec
  have hb := B.bytes
  have hts : ∀ w ∈ Wall, w.before _ s = true := fun w hw => atoms_spec (ws := wm yX9_detector cX9_detector 5 (some .int)) B.pre w (List.mem_cons_of_mem _ hw)
  have hown : s.vm.findClass RX9 = some m.cls := findClass_of_methodNamed B.named
  have hlocks := B.notSynchronized
  subst hsz
  have hD := hD0.self (sz := s.heap.size)
  generalize hAe : va_A (wC cI cZ ad u) s.heap.size = A at hD hZ
  have hA : ∀ q : Nat, s.heap.size ≤ q → A q := fun q h => by rw [← hAe]; exact Or.inr h
  have hS : va_S A s.heap s.heap [] := va_S.rf
  have hf23 := hts _ mw_306
  have hf149 := hts _ mw_118
  have hf152 := hts _ mw_120
  have hl := lv_entry ([.ref (ad 0), .int p0, .int p1, .int p2]) (n := 5) (Nat.le_of_ble_eq_true rfl)
  rw [lg_entry_eq]
  generalize (lg_sl ([.ref (ad 0), .int p0, .int p1, .int p2]) ++ List.replicate (5 - (lg_sl ([.ref (ad 0), .int p0, .int p1, .int p2])).length) Slot.unset).toArray = ls at hl ⊢
  replace hl : lv_has ls 5 [(0, .ref (ad 0)), (1, .int p0), (2, .int p1), (3, .int p2)] := hl
  refine w_gen (fun Q hQ => ?_)
  refine lv_iload_n hx hb dX9_detector_0 rfl (lv_at hl 1 rfl) ?_
  rcases gx_xx h with ⟨y1, u2, hc3, h⟩ | ⟨u2, hc3, ew⟩
  · refine cc_vS (As := [.int p0]) (rest := []) ⟨hx, hb, hml, hown, hts⟩ (k_X9_needSection l D cI cZ ad u p0 hc3) (va_cwS 1 hts (gwS mw_595 mw_596 mw_48 mw_597) rfl rfl rfl (by decide +kernel) ⟨Nat.le_of_ble_eq_true rfl, Nat.le_of_ble_eq_true rfl⟩) hK hP hD hS hA hZ rfl hl.1 rfl (Nat.le_of_ble_eq_true rfl) dX9_detector_1 ⟨Nat.zero_le _, Nat.zero_le _⟩ (fun H locs hP hD hS => ?_)
    refine lv_iload_n hx hb dX9_detector_4 rfl (lv_at hl 2 rfl) ?_
    refine lv_iconst (v := 0) hx hb dX9_detector_5 (by decide) ?_
    refine lv_iconst (v := 2) hx hb dX9_detector_6 (by decide) ?_
    obtain ⟨y4, hc5, h⟩ := gx_bind h
    refine cc_iS (As := [.int p1, .int (0 : Int32), .int (2 : Int32)]) (rest := []) ⟨hx, hb, hml, hown, hts⟩ (k_X9_isWithin l D cI cZ ad u2 p1 (0 : Int32) (2 : Int32) hc5) (va_cwS 3 hts (gwS mw_391 mw_273 mw_48 mw_274) rfl rfl rfl (by decide +kernel) ⟨Nat.le_of_ble_eq_true rfl, Nat.le_of_ble_eq_true rfl⟩) hK hP hD hS hA hZ rfl hl.1 rfl (Nat.le_of_ble_eq_true rfl) dX9_detector_7 ⟨Nat.zero_le _, Nat.zero_le _⟩ (fun H locs hP hD hS => ?_)
    rcases gx_xx h with ⟨y6, u7, hc8, h⟩ | ⟨u7, hc8, ew⟩
    · refine cc_vS (As := [.int y4]) (rest := []) ⟨hx, hb, hml, hown, hts⟩ (k_X9_needArgument l D cI cZ ad u2 y4 hc8) (va_cwS 1 hts (gwS mw_392 mw_393 mw_48 mw_394) rfl rfl rfl (by decide +kernel) ⟨Nat.le_of_ble_eq_true rfl, Nat.le_of_ble_eq_true rfl⟩) hK hP hD hS hA hZ rfl hl.1 rfl (Nat.le_of_ble_eq_true rfl) dX9_detector_10 ⟨Nat.zero_le _, Nat.zero_le _⟩ (fun H locs hP hD hS => ?_)
      refine lv_iload_n hx hb dX9_detector_13 rfl (lv_at hl 2 rfl) ?_
      refine lv_iconst (v := 1) hx hb dX9_detector_14 (by decide) ?_
      obtain ⟨j33_9, ej33_9, h⟩ := gx_let h
      have hj33_9 : ∀ (z0_33 : Int32) (H : Heap) (locs : List Loc) (ls : Array Slot), j33_9 z0_33 = some (.inr E, w') → va_P D vwCl (wC cI cZ ad u7) H → va_D A (wC cI cZ ad u7) → va_S A s.heap H locs → lv_has ls 5 [(0, .ref (ad 0)), (1, .int p0), (2, .int p1), (3, .int p2)] → W p l e rx_X9_detector s m ([.ref (ad 0), .int p0, .int p1, .int p2] : List Value).toArray below meth c H locs 0 0 Q (F0 m 33 ls [.int z0_33]) := by
        intro z0_33 H locs ls h hP hD hS hl
        subst ej33_9
        rcases gx_xx h with ⟨y10, u11, hc12, h⟩ | ⟨u11, hc12, ew⟩
        · refine cc_vS (As := [.int z0_33]) (rest := []) ⟨hx, hb, hml, hown, hts⟩ (k_X9_needArgument l D cI cZ ad u7 z0_33 hc12) (va_cwS 1 hts (gwS mw_392 mw_393 mw_48 mw_394) rfl rfl rfl (by decide +kernel) ⟨Nat.le_of_ble_eq_true rfl, Nat.le_of_ble_eq_true rfl⟩) hK hP hD hS hA hZ rfl hl.1 rfl (Nat.le_of_ble_eq_true rfl) dX9_detector_33 ⟨Nat.zero_le _, Nat.zero_le _⟩ (fun H locs hP hD hS => ?_)
          refine lv_aload_n hx hb dX9_detector_36 rfl (lv_at hl 0 rfl) ?_
          refine va_get (D := D) (ci := 9) (v := .ref (ad 2)) (C := RX9) (T := TX9) (N := 10) hx hb hts iX9 hown hK hP 0 rfl rfl 2 (by decide) hf23 (fun _ h9 => h9) rfl dX9_detector_37 ?_
          refine va_get (D := D) (ci := 1) (v := .ref (ad 13)) (C := RX1) (T := TX1) (N := 2) hx hb hts iX1 hown hK hP 2 rfl rfl 0 (by decide) hf149 (fun _ h9 => h9) rfl dX9_detector_40 ?_
          refine lv_iload_n hx hb dX9_detector_43 rfl (lv_at hl 1 rfl) ?_
          obtain ⟨b13, h⟩ := gx_in h
          refine va_iald (D := D) hx hb hK hP 13 0 rfl rfl b13 dX9_detector_44 ?_
          obtain ⟨v14, ev14, h⟩ := gx_let h
          refine lv_topn ev14 ?_
          refine lv_istore (lv' := [(4, .int v14), (0, .ref (ad 0)), (1, .int p0), (2, .int p1), (3, .int p2)]) hx hb dX9_detector_45 hl (by decide) rfl (fun ls hl => ?_)
          refine lv_aload_n hx hb dX9_detector_47 rfl (lv_at hl 1 rfl) ?_
          refine va_get (D := D) (ci := 9) (v := .ref (ad 2)) (C := RX9) (T := TX9) (N := 10) hx hb hts iX9 hown hK hP 0 rfl rfl 2 (by decide) hf23 (fun _ h9 => h9) rfl dX9_detector_48 ?_
          refine va_get (D := D) (ci := 1) (v := .ref (ad 13)) (C := RX1) (T := TX1) (N := 2) hx hb hts iX1 hown hK hP 2 rfl rfl 0 (by decide) hf149 (fun _ h9 => h9) rfl dX9_detector_51 ?_
          refine lv_iload_n hx hb dX9_detector_54 rfl (lv_at hl 2 rfl) ?_
          refine lv_iload_n hx hb dX9_detector_55 rfl (lv_at hl 3 rfl) ?_
          obtain ⟨b15, h⟩ := gx_in h
          refine va_iast (D := D) hx hb hK hP hD hS 13 0 rfl rfl b15 dX9_detector_56 (fun H locs hP hD hS => ?_)
          obtain ⟨u16, eu16, h⟩ := gx_let h
          replace hP : va_P D vwCl (wC cI cZ ad u16) H := by rw [← eu16]; exact hP
          replace hD : va_D A (wC cI cZ ad u16) := by rw [← eu16]; exact hD
          refine lv_aload_n hx hb dX9_detector_57 rfl (lv_at hl 1 rfl) ?_
          refine va_get (D := D) (ci := 9) (v := .ref (ad 2)) (C := RX9) (T := TX9) (N := 10) hx hb hts iX9 hown hK hP 0 rfl rfl 2 (by decide) hf23 (fun _ h9 => h9) rfl dX9_detector_58 ?_
          refine va_get (D := D) (ci := 1) (v := .ref (ad 14)) (C := RX1) (T := TX1) (N := 2) hx hb hts iX1 hown hK hP 2 rfl rfl 1 (by decide) hf152 (fun _ h9 => h9) rfl dX9_detector_61 ?_
          refine lv_iload_n hx hb dX9_detector_64 rfl (lv_at hl 2 rfl) ?_
          refine lv_iload_n hx hb dX9_detector_65 rfl (lv_at hl 4 rfl) ?_
          obtain ⟨b17, h⟩ := gx_in h
          refine va_iast (D := D) hx hb hK hP hD hS 14 0 rfl rfl b17 dX9_detector_66 (fun H locs hP hD hS => ?_)
          obtain ⟨u18, eu18, h⟩ := gx_let h
          replace hP : va_P D vwCl (wC cI cZ ad u18) H := by rw [← eu18]; exact hP
          replace hD : va_D A (wC cI cZ ad u18) := by rw [← eu18]; exact hD
          refine lv_iload hx hb dX9_detector_67 (lv_at hl 0 rfl) ?_
          cases h
        · replace ew : u11 = w' := ew
          subst ew
          refine cX_vS (As := [.int z0_33]) (rest := []) ⟨hx, hb, hml, hown, hts⟩ (kx_X9_needArgument l hl0 D cI cZ ad u7 z0_33 hc12) (va_cwS 1 hts (gwS mw_392 mw_393 mw_48 mw_394) rfl rfl rfl (by decide +kernel) ⟨Nat.le_of_ble_eq_true rfl, Nat.le_of_ble_eq_true rfl⟩) hK hP hD hS hA hZ rfl hl.1 rfl (Nat.le_of_ble_eq_true rfl) dX9_detector_33 ⟨Nat.le_of_ble_eq_true rfl, Nat.le_of_ble_eq_true rfl⟩ (fun ce q9 H locs hP hD hS h1 h2 h3 => ?_)
          exact cX_back hAe hQ hout hlocks hK rfl hP hD hS h1 h2 h3 (Nat.le_refl _) (Nat.le_refl _)
      obtain ⟨j28_19, ej28_19, h⟩ := gx_let h
      have hj28_19 : ∀ (H : Heap) (locs : List Loc) (ls : Array Slot), j28_19 () = some (.inr E, w') → va_P D vwCl (wC cI cZ ad u7) H → va_D A (wC cI cZ ad u7) → va_S A s.heap H locs → lv_has ls 5 [(0, .ref (ad 0)), (1, .int p0), (2, .int p1), (3, .int p2)] → W p l e rx_X9_detector s m ([.ref (ad 0), .int p0, .int p1, .int p2] : List Value).toArray below meth c H locs 0 0 Q (F0 m 28 ls []) := by
        intro  H locs ls h hP hD hS hl
        subst ej28_19
        refine lv_iconst (v := 1) hx hb dX9_detector_28 (by decide) ?_
        refine lv_goto (tgt := 33) hx hb dX9_detector_29 (by decide) ?_
        exact hj33_9 (1 : Int32) _ _ _ h hP hD hS (lv_sub hl [0, 1, 2, 3] rfl)
      refine lv_icmp_ne (tgt := 28) hx hb dX9_detector_15 (by decide) (fun c20 => ?_) (fun c20 => ?_)
      · replace h := gx_f c20 h
        exact hj28_19 _ _ _ h hP hD hS (lv_sub hl [0, 1, 2, 3] rfl)
      · replace h := gx_t c20 h
        refine lv_iload_n hx hb dX9_detector_18 rfl (lv_at hl 3 rfl) ?_
        refine lv_iconst (v := 0) hx hb dX9_detector_19 (by decide) ?_
        refine lv_bipush (v := 120) hx hb dX9_detector_20 (by decide) ?_
        obtain ⟨y21, hc22, h⟩ := gx_bind h
        refine cc_iS (As := [.int p2, .int (0 : Int32), .int (120 : Int32)]) (rest := []) ⟨hx, hb, hml, hown, hts⟩ (k_X9_isWithin l D cI cZ ad u7 p2 (0 : Int32) (120 : Int32) hc22) (va_cwS 3 hts (gwS mw_391 mw_273 mw_48 mw_274) rfl rfl rfl (by decide +kernel) ⟨Nat.le_of_ble_eq_true rfl, Nat.le_of_ble_eq_true rfl⟩) hK hP hD hS hA hZ rfl hl.1 rfl (Nat.le_of_ble_eq_true rfl) dX9_detector_22 ⟨Nat.zero_le _, Nat.zero_le _⟩ (fun H locs hP hD hS => ?_)
        refine lv_if_eq (tgt := 32) hx hb dX9_detector_25 (by decide) (fun c23 => ?_) (fun c23 => ?_)
        · replace h := gx_t c23 h
          refine lv_iconst (v := 0) hx hb dX9_detector_32 (by decide) ?_
          exact hj33_9 (0 : Int32) _ _ _ h hP hD hS (lv_sub hl [0, 1, 2, 3] rfl)
        · replace h := gx_f c23 h
          exact hj28_19 _ _ _ h hP hD hS (lv_sub hl [0, 1, 2, 3] rfl)
    · replace ew : u7 = w' := ew
      subst ew
      refine cX_vS (As := [.int y4]) (rest := []) ⟨hx, hb, hml, hown, hts⟩ (kx_X9_needArgument l hl0 D cI cZ ad u2 y4 hc8) (va_cwS 1 hts (gwS mw_392 mw_393 mw_48 mw_394) rfl rfl rfl (by decide +kernel) ⟨Nat.le_of_ble_eq_true rfl, Nat.le_of_ble_eq_true rfl⟩) hK hP hD hS hA hZ rfl hl.1 rfl (Nat.le_of_ble_eq_true rfl) dX9_detector_10 ⟨Nat.le_of_ble_eq_true rfl, Nat.le_of_ble_eq_true rfl⟩ (fun ce q9 H locs hP hD hS h1 h2 h3 => ?_)
      exact cX_back hAe hQ hout hlocks hK rfl hP hD hS h1 h2 h3 (Nat.le_refl _) (Nat.le_refl _)
  · replace ew : u2 = w' := ew
    subst ew
    refine cX_vS (As := [.int p0]) (rest := []) ⟨hx, hb, hml, hown, hts⟩ (kx_X9_needSection l hl0 D cI cZ ad u p0 hc3) (va_cwS 1 hts (gwS mw_595 mw_596 mw_48 mw_597) rfl rfl rfl (by decide +kernel) ⟨Nat.le_of_ble_eq_true rfl, Nat.le_of_ble_eq_true rfl⟩) hK hP hD hS hA hZ rfl hl.1 rfl (Nat.le_of_ble_eq_true rfl) dX9_detector_1 ⟨Nat.le_of_ble_eq_true rfl, Nat.le_of_ble_eq_true rfl⟩ (fun ce q9 H locs hP hD hS h1 h2 h3 => ?_)
    exact cX_back hAe hQ hout hlocks hK rfl hP hD hS h1 h2 h3 (Nat.le_refl _) (Nat.le_refl _)

def rX9_weather : Room := { frames := 1, cells := 0, slots := 0, locals := 22 }
set_option maxHeartbeats 4000000 in
set_option maxRecDepth 100000 in
theorem k_X9_weather (l : Launch) (D : va_G) (cI cZ : ClassId) (ad : Nat → Nat) (u : GS) (p0 : Int32) {r : Int32} {w' : GS} (h : g_X9_weather u p0 = some (.inl r, w')) : MI l yX9_weather (wm yX9_weather cX9_weather 3 (some .int)) rX9_weather D [(cI, .int), (cZ, .boolean)] (wC cI cZ ad u) (wC cI cZ ad w') [.ref (ad 0), .int p0] r := by
  intro sz
  refine Met.ofW (cc := cX9_weather) (maxL := 3) (ret := (some .int)) (by decide) rfl ?_
  intro p e s m args below meth c s₁ B hml hv
  obtain ⟨rfl, hsz, hP, hK, hD0, hZ⟩ := hv
  have hx := B.exec
  have hb := B.bytes
  have hr := B.returns
  have hts : ∀ w ∈ Wall, w.before _ s = true := fun w hw => atoms_spec (ws := wm yX9_weather cX9_weather 3 (some .int)) B.pre w (List.mem_cons_of_mem _ hw)
  have hown : s.vm.findClass RX9 = some m.cls := findClass_of_methodNamed B.named
  have hlocks := B.notSynchronized
  subst hsz
  have hD := hD0.self (sz := s.heap.size)
  generalize hAe : va_A (wC cI cZ ad u) s.heap.size = A at hD hZ ⊢
  have hA : ∀ q : Nat, s.heap.size ≤ q → A q := fun q h => by rw [← hAe]; exact Or.inr h
  have hS : va_S A s.heap s.heap [] := va_S.rf
  have hf30 := hts _ mw_307
  have hf155 := hts _ mw_138
  have hl := lv_entry ([.ref (ad 0), .int p0]) (n := 3) (Nat.le_of_ble_eq_true rfl)
  rw [lg_entry_eq]
  generalize (lg_sl ([.ref (ad 0), .int p0]) ++ List.replicate (3 - (lg_sl ([.ref (ad 0), .int p0])).length) Slot.unset).toArray = ls at hl ⊢
  replace hl : lv_has ls 3 [(0, .ref (ad 0)), (1, .int p0)] := hl
  refine w_gen (fun Q hQ => ?_)
  refine lv_iload_n hx hb dX9_weather_0 rfl (lv_at hl 1 rfl) ?_
  refine lv_iconst (v := 0) hx hb dX9_weather_1 (by decide) ?_
  refine lv_iconst (v := 3) hx hb dX9_weather_2 (by decide) ?_
  obtain ⟨y1, hc2, h⟩ := gx_bind h
  refine cc_iS (As := [.int p0, .int (0 : Int32), .int (3 : Int32)]) (rest := []) ⟨hx, hb, hml, hown, hts⟩ (k_X9_isWithin l D cI cZ ad u p0 (0 : Int32) (3 : Int32) hc2) (va_cwS 3 hts (gwS mw_391 mw_273 mw_48 mw_274) rfl rfl rfl (by decide +kernel) ⟨Nat.le_of_ble_eq_true rfl, Nat.le_of_ble_eq_true rfl⟩) hK hP hD hS hA hZ rfl hl.1 rfl (Nat.le_of_ble_eq_true rfl) dX9_weather_3 ⟨Nat.zero_le _, Nat.zero_le _⟩ (fun H locs hP hD hS => ?_)
  obtain ⟨y3, u4, hc5, h⟩ := gx_xr h
  refine cc_vS (As := [.int y1]) (rest := []) ⟨hx, hb, hml, hown, hts⟩ (k_X9_needArgument l D cI cZ ad u y1 hc5) (va_cwS 1 hts (gwS mw_392 mw_393 mw_48 mw_394) rfl rfl rfl (by decide +kernel) ⟨Nat.le_of_ble_eq_true rfl, Nat.le_of_ble_eq_true rfl⟩) hK hP hD hS hA hZ rfl hl.1 rfl (Nat.le_of_ble_eq_true rfl) dX9_weather_6 ⟨Nat.zero_le _, Nat.zero_le _⟩ (fun H locs hP hD hS => ?_)
  refine lv_aload_n hx hb dX9_weather_9 rfl (lv_at hl 0 rfl) ?_
  refine va_get (D := D) (ci := 9) (v := .ref (ad 3)) (C := RX9) (T := TX9) (N := 10) hx hb hts iX9 hown hK hP 0 rfl rfl 3 (by decide) hf30 (fun _ h9 => h9) rfl dX9_weather_10 ?_
  refine va_get (D := D) (ci := 7) (v := .int (cS_weather u4)) (C := RX7) (T := TX7) (N := 4) hx hb hts iX7 hown hK hP 3 rfl rfl 3 (by decide) hf155 (fun _ h9 => h9) rfl dX9_weather_13 ?_
  obtain ⟨v6, ev6, h⟩ := gx_let h
  refine lv_topn ev6 ?_
  refine lv_istore_n (lv' := [(2, .int v6), (0, .ref (ad 0)), (1, .int p0)]) hx hb dX9_weather_16 rfl hl (by decide) rfl (fun ls hl => ?_)
  refine lv_aload_n hx hb dX9_weather_17 rfl (lv_at hl 1 rfl) ?_
  refine va_get (D := D) (ci := 9) (v := .ref (ad 3)) (C := RX9) (T := TX9) (N := 10) hx hb hts iX9 hown hK hP 0 rfl rfl 3 (by decide) hf30 (fun _ h9 => h9) rfl dX9_weather_18 ?_
  refine lv_iload_n hx hb dX9_weather_21 rfl (lv_at hl 2 rfl) ?_
  refine va_put (D := D) (ci := 7) (v := .int p0) (ty := .int) (C := RX7) (T := TX7) (N := 4) hx hb hts iX7 tyX7 tyX7_ok nmX7 hown hK hP hD hS 3 rfl rfl 3 (by decide) hf155 (fun _ h9 => h9) rfl (by decide +kernel) rfl rfl (Nat.le_of_ble_eq_true rfl) dX9_weather_22 (fun H locs hP hD hS => ?_)
  obtain ⟨u7, eu7, h⟩ := gx_let h
  replace hP : va_P D vwCl (wC cI cZ ad u7) H := by rw [← eu7]; exact hP
  replace hD : va_D A (wC cI cZ ad u7) := by rw [← eu7]; exact hD
  refine lv_iload_n hx hb dX9_weather_25 rfl (lv_at hl 0 rfl) ?_
  cases h
  exact cc_ret hx hb hr rfl hQ hK hP hD hS rfl dX9_weather_26 hlocks

def rx_X9_weather : Room := { frames := 7, cells := 1, slots := 6, locals := 110 }
set_option maxHeartbeats 4000000 in
set_option maxRecDepth 100000 in
theorem kx_X9_weather (l : Launch) (hl0 : l.stackTraces = false) (D : va_G) (cI cZ : ClassId) (ad : Nat → Nat) (u : GS) (p0 : Int32) {E : String} {w' : GS} (h : g_X9_weather u p0 = some (.inr E, w')) : XI l yX9_weather (wm yX9_weather cX9_weather 3 (some .int)) rx_X9_weather D [(cI, .int), (cZ, .boolean)] (wC cI cZ ad u) (wC cI cZ ad w') [.ref (ad 0), .int p0] E := by
  intro sz
  refine vx_ofW (cc := cX9_weather) (maxL := 3) (ret := (some .int)) (by decide) rfl ?_
  intro p e s m args below meth c s₁ B hml hout hv
  obtain ⟨rfl, hsz, hP, hK, hD0, hZ⟩ := hv
  have hx := B.exec
  have hb := B.bytes
  have hts : ∀ w ∈ Wall, w.before _ s = true := fun w hw => atoms_spec (ws := wm yX9_weather cX9_weather 3 (some .int)) B.pre w (List.mem_cons_of_mem _ hw)
  have hown : s.vm.findClass RX9 = some m.cls := findClass_of_methodNamed B.named
  have hlocks := B.notSynchronized
  subst hsz
  have hD := hD0.self (sz := s.heap.size)
  generalize hAe : va_A (wC cI cZ ad u) s.heap.size = A at hD hZ
  have hA : ∀ q : Nat, s.heap.size ≤ q → A q := fun q h => by rw [← hAe]; exact Or.inr h
  have hS : va_S A s.heap s.heap [] := va_S.rf
  have hf30 := hts _ mw_307
  have hf155 := hts _ mw_138
  have hl := lv_entry ([.ref (ad 0), .int p0]) (n := 3) (Nat.le_of_ble_eq_true rfl)
  rw [lg_entry_eq]
  generalize (lg_sl ([.ref (ad 0), .int p0]) ++ List.replicate (3 - (lg_sl ([.ref (ad 0), .int p0])).length) Slot.unset).toArray = ls at hl ⊢
  replace hl : lv_has ls 3 [(0, .ref (ad 0)), (1, .int p0)] := hl
  refine w_gen (fun Q hQ => ?_)
  refine lv_iload_n hx hb dX9_weather_0 rfl (lv_at hl 1 rfl) ?_
  refine lv_iconst (v := 0) hx hb dX9_weather_1 (by decide) ?_
  refine lv_iconst (v := 3) hx hb dX9_weather_2 (by decide) ?_
  obtain ⟨y1, hc2, h⟩ := gx_bind h
  refine cc_iS (As := [.int p0, .int (0 : Int32), .int (3 : Int32)]) (rest := []) ⟨hx, hb, hml, hown, hts⟩ (k_X9_isWithin l D cI cZ ad u p0 (0 : Int32) (3 : Int32) hc2) (va_cwS 3 hts (gwS mw_391 mw_273 mw_48 mw_274) rfl rfl rfl (by decide +kernel) ⟨Nat.le_of_ble_eq_true rfl, Nat.le_of_ble_eq_true rfl⟩) hK hP hD hS hA hZ rfl hl.1 rfl (Nat.le_of_ble_eq_true rfl) dX9_weather_3 ⟨Nat.zero_le _, Nat.zero_le _⟩ (fun H locs hP hD hS => ?_)
  rcases gx_xx h with ⟨y3, u4, hc5, h⟩ | ⟨u4, hc5, ew⟩
  · refine cc_vS (As := [.int y1]) (rest := []) ⟨hx, hb, hml, hown, hts⟩ (k_X9_needArgument l D cI cZ ad u y1 hc5) (va_cwS 1 hts (gwS mw_392 mw_393 mw_48 mw_394) rfl rfl rfl (by decide +kernel) ⟨Nat.le_of_ble_eq_true rfl, Nat.le_of_ble_eq_true rfl⟩) hK hP hD hS hA hZ rfl hl.1 rfl (Nat.le_of_ble_eq_true rfl) dX9_weather_6 ⟨Nat.zero_le _, Nat.zero_le _⟩ (fun H locs hP hD hS => ?_)
    refine lv_aload_n hx hb dX9_weather_9 rfl (lv_at hl 0 rfl) ?_
    refine va_get (D := D) (ci := 9) (v := .ref (ad 3)) (C := RX9) (T := TX9) (N := 10) hx hb hts iX9 hown hK hP 0 rfl rfl 3 (by decide) hf30 (fun _ h9 => h9) rfl dX9_weather_10 ?_
    refine va_get (D := D) (ci := 7) (v := .int (cS_weather u4)) (C := RX7) (T := TX7) (N := 4) hx hb hts iX7 hown hK hP 3 rfl rfl 3 (by decide) hf155 (fun _ h9 => h9) rfl dX9_weather_13 ?_
    obtain ⟨v6, ev6, h⟩ := gx_let h
    refine lv_topn ev6 ?_
    refine lv_istore_n (lv' := [(2, .int v6), (0, .ref (ad 0)), (1, .int p0)]) hx hb dX9_weather_16 rfl hl (by decide) rfl (fun ls hl => ?_)
    refine lv_aload_n hx hb dX9_weather_17 rfl (lv_at hl 1 rfl) ?_
    refine va_get (D := D) (ci := 9) (v := .ref (ad 3)) (C := RX9) (T := TX9) (N := 10) hx hb hts iX9 hown hK hP 0 rfl rfl 3 (by decide) hf30 (fun _ h9 => h9) rfl dX9_weather_18 ?_
    refine lv_iload_n hx hb dX9_weather_21 rfl (lv_at hl 2 rfl) ?_
    refine va_put (D := D) (ci := 7) (v := .int p0) (ty := .int) (C := RX7) (T := TX7) (N := 4) hx hb hts iX7 tyX7 tyX7_ok nmX7 hown hK hP hD hS 3 rfl rfl 3 (by decide) hf155 (fun _ h9 => h9) rfl (by decide +kernel) rfl rfl (Nat.le_of_ble_eq_true rfl) dX9_weather_22 (fun H locs hP hD hS => ?_)
    obtain ⟨u7, eu7, h⟩ := gx_let h
    replace hP : va_P D vwCl (wC cI cZ ad u7) H := by rw [← eu7]; exact hP
    replace hD : va_D A (wC cI cZ ad u7) := by rw [← eu7]; exact hD
    refine lv_iload_n hx hb dX9_weather_25 rfl (lv_at hl 0 rfl) ?_
    cases h
  · replace ew : u4 = w' := ew
    subst ew
    refine cX_vS (As := [.int y1]) (rest := []) ⟨hx, hb, hml, hown, hts⟩ (kx_X9_needArgument l hl0 D cI cZ ad u y1 hc5) (va_cwS 1 hts (gwS mw_392 mw_393 mw_48 mw_394) rfl rfl rfl (by decide +kernel) ⟨Nat.le_of_ble_eq_true rfl, Nat.le_of_ble_eq_true rfl⟩) hK hP hD hS hA hZ rfl hl.1 rfl (Nat.le_of_ble_eq_true rfl) dX9_weather_6 ⟨Nat.le_of_ble_eq_true rfl, Nat.le_of_ble_eq_true rfl⟩ (fun ce q9 H locs hP hD hS h1 h2 h3 => ?_)
    exact cX_back hAe hQ hout hlocks hK rfl hP hD hS h1 h2 h3 (Nat.le_refl _) (Nat.le_refl _)

def rX9_isSpeedSign : Room := { frames := 1, cells := 0, slots := 0, locals := 22 }
set_option maxHeartbeats 4000000 in
set_option maxRecDepth 100000 in
theorem k_X9_isSpeedSign (l : Launch) (D : va_G) (cI cZ : ClassId) (ad : Nat → Nat) (u : GS) (p0 : Int32) {r : Int32} (h : g_X9_isSpeedSign p0 = some r) : MI l yX9_isSpeedSign (wm yX9_isSpeedSign cX9_isSpeedSign 1 (some .boolean)) rX9_isSpeedSign D [(cI, .int), (cZ, .boolean)] (wC cI cZ ad u) (wC cI cZ ad u) [.int p0] r := by
  intro sz
  refine Met.ofW (cc := cX9_isSpeedSign) (maxL := 1) (ret := (some .boolean)) (by decide) rfl ?_
  intro p e s m args below meth c s₁ B hml hv
  obtain ⟨rfl, hsz, hP, hK, hD0, hZ⟩ := hv
  have hx := B.exec
  have hb := B.bytes
  have hr := B.returns
  have hts : ∀ w ∈ Wall, w.before _ s = true := fun w hw => atoms_spec (ws := wm yX9_isSpeedSign cX9_isSpeedSign 1 (some .boolean)) B.pre w (List.mem_cons_of_mem _ hw)
  have hown : s.vm.findClass RX9 = some m.cls := findClass_of_methodNamed B.named
  have hlocks := B.notSynchronized
  subst hsz
  have hD := hD0.self (sz := s.heap.size)
  generalize hAe : va_A (wC cI cZ ad u) s.heap.size = A at hD hZ ⊢
  have hA : ∀ q : Nat, s.heap.size ≤ q → A q := fun q h => by rw [← hAe]; exact Or.inr h
  have hS : va_S A s.heap s.heap [] := va_S.rf
  have hl := lv_entry ([.int p0]) (n := 1) (Nat.le_of_ble_eq_true rfl)
  rw [lg_entry_eq]
  generalize (lg_sl ([.int p0]) ++ List.replicate (1 - (lg_sl ([.int p0])).length) Slot.unset).toArray = ls at hl ⊢
  replace hl : lv_has ls 1 [(0, .int p0)] := hl
  refine w_gen (fun Q hQ => ?_)
  refine lv_iload_n hx hb dX9_isSpeedSign_0 rfl (lv_at hl 0 rfl) ?_
  refine lv_bipush (v := 40) hx hb dX9_isSpeedSign_1 (by decide) ?_
  refine lv_bipush (v := 120) hx hb dX9_isSpeedSign_3 (by decide) ?_
  obtain ⟨y1, hc2, h⟩ := gx_bind h
  refine cc_iS (As := [.int p0, .int (40 : Int32), .int (120 : Int32)]) (rest := []) ⟨hx, hb, hml, hown, hts⟩ (k_X9_isWithin l D cI cZ ad u p0 (40 : Int32) (120 : Int32) hc2) (va_cwS 3 hts (gwS mw_391 mw_273 mw_48 mw_274) rfl rfl rfl (by decide +kernel) ⟨Nat.le_of_ble_eq_true rfl, Nat.le_of_ble_eq_true rfl⟩) hK hP hD hS hA hZ rfl hl.1 rfl (Nat.le_of_ble_eq_true rfl) dX9_isSpeedSign_5 ⟨Nat.zero_le _, Nat.zero_le _⟩ (fun H locs hP hD hS => ?_)
  refine lv_if_eq (tgt := 22) hx hb dX9_isSpeedSign_8 (by decide) (fun c3 => ?_) (fun c3 => ?_)
  · replace h := gx_t c3 h
    refine lv_iconst (v := 0) hx hb dX9_isSpeedSign_22 (by decide) ?_
    cases h
    exact cc_ret hx hb hr rfl hQ hK hP hD hS rfl dX9_isSpeedSign_23 hlocks
  · replace h := gx_f c3 h
    refine lv_iload_n hx hb dX9_isSpeedSign_11 rfl (lv_at hl 0 rfl) ?_
    refine lv_bipush (v := 20) hx hb dX9_isSpeedSign_12 (by decide) ?_
    refine lv_irem hx hb dX9_isSpeedSign_14 (by decide) ?_
    refine lv_if_ne (tgt := 22) hx hb dX9_isSpeedSign_15 (by decide) (fun c4 => ?_) (fun c4 => ?_)
    · replace h := gx_f c4 h
      refine lv_iconst (v := 0) hx hb dX9_isSpeedSign_22 (by decide) ?_
      cases h
      exact cc_ret hx hb hr rfl hQ hK hP hD hS rfl dX9_isSpeedSign_23 hlocks
    · replace h := gx_t c4 h
      refine lv_iconst (v := 1) hx hb dX9_isSpeedSign_18 (by decide) ?_
      refine lv_goto (tgt := 23) hx hb dX9_isSpeedSign_19 (by decide) ?_
      cases h
      exact cc_ret hx hb hr rfl hQ hK hP hD hS rfl dX9_isSpeedSign_23 hlocks

def rX9_limit : Room := { frames := 2, cells := 0, slots := 0, locals := 42 }
set_option maxHeartbeats 4000000 in
set_option maxRecDepth 100000 in
theorem k_X9_limit (l : Launch) (D : va_G) (cI cZ : ClassId) (ad : Nat → Nat) (u : GS) (p0 : Int32) (p1 : Int32) {r : Int32} {w' : GS} (h : g_X9_limit u p0 p1 = some (.inl r, w')) : MI l yX9_limit (wm yX9_limit cX9_limit 4 (some .int)) rX9_limit D [(cI, .int), (cZ, .boolean)] (wC cI cZ ad u) (wC cI cZ ad w') [.ref (ad 0), .int p0, .int p1] r := by
  intro sz
  refine Met.ofW (cc := cX9_limit) (maxL := 4) (ret := (some .int)) (by decide) rfl ?_
  intro p e s m args below meth c s₁ B hml hv
  obtain ⟨rfl, hsz, hP, hK, hD0, hZ⟩ := hv
  have hx := B.exec
  have hb := B.bytes
  have hr := B.returns
  have hts : ∀ w ∈ Wall, w.before _ s = true := fun w hw => atoms_spec (ws := wm yX9_limit cX9_limit 4 (some .int)) B.pre w (List.mem_cons_of_mem _ hw)
  have hown : s.vm.findClass RX9 = some m.cls := findClass_of_methodNamed B.named
  have hlocks := B.notSynchronized
  subst hsz
  have hD := hD0.self (sz := s.heap.size)
  generalize hAe : va_A (wC cI cZ ad u) s.heap.size = A at hD hZ ⊢
  have hA : ∀ q : Nat, s.heap.size ≤ q → A q := fun q h => by rw [← hAe]; exact Or.inr h
  have hS : va_S A s.heap s.heap [] := va_S.rf
  have hf30 := hts _ mw_307
  have hf162 := hts _ mw_133
  have hl := lv_entry ([.ref (ad 0), .int p0, .int p1]) (n := 4) (Nat.le_of_ble_eq_true rfl)
  rw [lg_entry_eq]
  generalize (lg_sl ([.ref (ad 0), .int p0, .int p1]) ++ List.replicate (4 - (lg_sl ([.ref (ad 0), .int p0, .int p1])).length) Slot.unset).toArray = ls at hl ⊢
  replace hl : lv_has ls 4 [(0, .ref (ad 0)), (1, .int p0), (2, .int p1)] := hl
  refine w_gen (fun Q hQ => ?_)
  refine lv_iload_n hx hb dX9_limit_0 rfl (lv_at hl 1 rfl) ?_
  obtain ⟨y1, u2, hc3, h⟩ := gx_xr h
  refine cc_vS (As := [.int p0]) (rest := []) ⟨hx, hb, hml, hown, hts⟩ (k_X9_needSection l D cI cZ ad u p0 hc3) (va_cwS 1 hts (gwS mw_595 mw_596 mw_48 mw_597) rfl rfl rfl (by decide +kernel) ⟨Nat.le_of_ble_eq_true rfl, Nat.le_of_ble_eq_true rfl⟩) hK hP hD hS hA hZ rfl hl.1 rfl (Nat.le_of_ble_eq_true rfl) dX9_limit_1 ⟨Nat.zero_le _, Nat.zero_le _⟩ (fun H locs hP hD hS => ?_)
  refine lv_iload_n hx hb dX9_limit_4 rfl (lv_at hl 2 rfl) ?_
  refine lv_iconst (v := (-1)) hx hb dX9_limit_5 (by decide) ?_
  obtain ⟨j21_4, ej21_4, h⟩ := gx_let h
  have hj21_4 : ∀ (z0_21 : Int32) (H : Heap) (locs : List Loc) (ls : Array Slot), j21_4 z0_21 = some (.inl r, w') → va_P D vwCl (wC cI cZ ad u2) H → va_D A (wC cI cZ ad u2) → va_S A s.heap H locs → lv_has ls 4 [(0, .ref (ad 0)), (1, .int p0), (2, .int p1)] → W p l e rX9_limit s m ([.ref (ad 0), .int p0, .int p1] : List Value).toArray below meth c H locs 0 0 Q (F0 m 21 ls [.int z0_21]) := by
    intro z0_21 H locs ls h hP hD hS hl
    subst ej21_4
    obtain ⟨y5, u6, hc7, h⟩ := gx_xr h
    refine cc_vS (As := [.int z0_21]) (rest := []) ⟨hx, hb, hml, hown, hts⟩ (k_X9_needArgument l D cI cZ ad u2 z0_21 hc7) (va_cwS 1 hts (gwS mw_392 mw_393 mw_48 mw_394) rfl rfl rfl (by decide +kernel) ⟨Nat.le_of_ble_eq_true rfl, Nat.le_of_ble_eq_true rfl⟩) hK hP hD hS hA hZ rfl hl.1 rfl (Nat.le_of_ble_eq_true rfl) dX9_limit_21 ⟨Nat.zero_le _, Nat.zero_le _⟩ (fun H locs hP hD hS => ?_)
    refine lv_aload_n hx hb dX9_limit_24 rfl (lv_at hl 0 rfl) ?_
    refine va_get (D := D) (ci := 9) (v := .ref (ad 3)) (C := RX9) (T := TX9) (N := 10) hx hb hts iX9 hown hK hP 0 rfl rfl 3 (by decide) hf30 (fun _ h9 => h9) rfl dX9_limit_25 ?_
    refine va_get (D := D) (ci := 7) (v := .ref (ad 15)) (C := RX7) (T := TX7) (N := 4) hx hb hts iX7 hown hK hP 3 rfl rfl 0 (by decide) hf162 (fun _ h9 => h9) rfl dX9_limit_28 ?_
    refine lv_iload_n hx hb dX9_limit_31 rfl (lv_at hl 1 rfl) ?_
    obtain ⟨b8, h⟩ := gx_in h
    refine va_iald (D := D) hx hb hK hP 15 0 rfl rfl b8 dX9_limit_32 ?_
    obtain ⟨v9, ev9, h⟩ := gx_let h
    refine lv_topn ev9 ?_
    refine lv_istore_n (lv' := [(3, .int v9), (0, .ref (ad 0)), (1, .int p0), (2, .int p1)]) hx hb dX9_limit_33 rfl hl (by decide) rfl (fun ls hl => ?_)
    refine lv_aload_n hx hb dX9_limit_34 rfl (lv_at hl 1 rfl) ?_
    refine va_get (D := D) (ci := 9) (v := .ref (ad 3)) (C := RX9) (T := TX9) (N := 10) hx hb hts iX9 hown hK hP 0 rfl rfl 3 (by decide) hf30 (fun _ h9 => h9) rfl dX9_limit_35 ?_
    refine va_get (D := D) (ci := 7) (v := .ref (ad 15)) (C := RX7) (T := TX7) (N := 4) hx hb hts iX7 hown hK hP 3 rfl rfl 0 (by decide) hf162 (fun _ h9 => h9) rfl dX9_limit_38 ?_
    refine lv_iload_n hx hb dX9_limit_41 rfl (lv_at hl 2 rfl) ?_
    refine lv_iload_n hx hb dX9_limit_42 rfl (lv_at hl 3 rfl) ?_
    obtain ⟨b10, h⟩ := gx_in h
    refine va_iast (D := D) hx hb hK hP hD hS 15 0 rfl rfl b10 dX9_limit_43 (fun H locs hP hD hS => ?_)
    obtain ⟨u11, eu11, h⟩ := gx_let h
    replace hP : va_P D vwCl (wC cI cZ ad u11) H := by rw [← eu11]; exact hP
    replace hD : va_D A (wC cI cZ ad u11) := by rw [← eu11]; exact hD
    refine lv_iload_n hx hb dX9_limit_44 rfl (lv_at hl 0 rfl) ?_
    cases h
    exact cc_ret hx hb hr rfl hQ hK hP hD hS rfl dX9_limit_45 hlocks
  obtain ⟨j16_12, ej16_12, h⟩ := gx_let h
  have hj16_12 : ∀ (H : Heap) (locs : List Loc) (ls : Array Slot), j16_12 () = some (.inl r, w') → va_P D vwCl (wC cI cZ ad u2) H → va_D A (wC cI cZ ad u2) → va_S A s.heap H locs → lv_has ls 4 [(0, .ref (ad 0)), (1, .int p0), (2, .int p1)] → W p l e rX9_limit s m ([.ref (ad 0), .int p0, .int p1] : List Value).toArray below meth c H locs 0 0 Q (F0 m 16 ls []) := by
    intro  H locs ls h hP hD hS hl
    subst ej16_12
    refine lv_iconst (v := 1) hx hb dX9_limit_16 (by decide) ?_
    refine lv_goto (tgt := 21) hx hb dX9_limit_17 (by decide) ?_
    exact hj21_4 (1 : Int32) _ _ _ h hP hD hS (lv_sub hl [0, 1, 2] rfl)
  refine lv_icmp_eq (tgt := 16) hx hb dX9_limit_6 (by decide) (fun c13 => ?_) (fun c13 => ?_)
  · replace h := gx_t c13 h
    exact hj16_12 _ _ _ h hP hD hS (lv_sub hl [0, 1, 2] rfl)
  · replace h := gx_f c13 h
    refine lv_iload_n hx hb dX9_limit_9 rfl (lv_at hl 2 rfl) ?_
    obtain ⟨y14, hc15, h⟩ := gx_bind h
    refine cc_iS (As := [.int p1]) (rest := []) ⟨hx, hb, hml, hown, hts⟩ (k_X9_isSpeedSign l D cI cZ ad u2 p1 hc15) (va_cwS 1 hts (gwS mw_659 mw_660 mw_48 mw_661) rfl rfl rfl (by decide +kernel) ⟨Nat.le_of_ble_eq_true rfl, Nat.le_of_ble_eq_true rfl⟩) hK hP hD hS hA hZ rfl hl.1 rfl (Nat.le_of_ble_eq_true rfl) dX9_limit_10 ⟨Nat.zero_le _, Nat.zero_le _⟩ (fun H locs hP hD hS => ?_)
    refine lv_if_eq (tgt := 20) hx hb dX9_limit_13 (by decide) (fun c16 => ?_) (fun c16 => ?_)
    · replace h := gx_t c16 h
      refine lv_iconst (v := 0) hx hb dX9_limit_20 (by decide) ?_
      exact hj21_4 (0 : Int32) _ _ _ h hP hD hS (lv_sub hl [0, 1, 2] rfl)
    · replace h := gx_f c16 h
      exact hj16_12 _ _ _ h hP hD hS (lv_sub hl [0, 1, 2] rfl)

def rx_X9_limit : Room := { frames := 8, cells := 1, slots := 6, locals := 130 }
set_option maxHeartbeats 4000000 in
set_option maxRecDepth 100000 in
theorem kx_X9_limit (l : Launch) (hl0 : l.stackTraces = false) (D : va_G) (cI cZ : ClassId) (ad : Nat → Nat) (u : GS) (p0 : Int32) (p1 : Int32) {E : String} {w' : GS} (h : g_X9_limit u p0 p1 = some (.inr E, w')) : XI l yX9_limit (wm yX9_limit cX9_limit 4 (some .int)) rx_X9_limit D [(cI, .int), (cZ, .boolean)] (wC cI cZ ad u) (wC cI cZ ad w') [.ref (ad 0), .int p0, .int p1] E := by
  intro sz
  refine vx_ofW (cc := cX9_limit) (maxL := 4) (ret := (some .int)) (by decide) rfl ?_
  intro p e s m args below meth c s₁ B hml hout hv
  obtain ⟨rfl, hsz, hP, hK, hD0, hZ⟩ := hv
  have hx := B.exec
  have hb := B.bytes
  have hts : ∀ w ∈ Wall, w.before _ s = true := fun w hw => atoms_spec (ws := wm yX9_limit cX9_limit 4 (some .int)) B.pre w (List.mem_cons_of_mem _ hw)
  have hown : s.vm.findClass RX9 = some m.cls := findClass_of_methodNamed B.named
  have hlocks := B.notSynchronized
  subst hsz
  have hD := hD0.self (sz := s.heap.size)
  generalize hAe : va_A (wC cI cZ ad u) s.heap.size = A at hD hZ
  have hA : ∀ q : Nat, s.heap.size ≤ q → A q := fun q h => by rw [← hAe]; exact Or.inr h
  have hS : va_S A s.heap s.heap [] := va_S.rf
  have hf30 := hts _ mw_307
  have hf162 := hts _ mw_133
  have hl := lv_entry ([.ref (ad 0), .int p0, .int p1]) (n := 4) (Nat.le_of_ble_eq_true rfl)
  rw [lg_entry_eq]
  generalize (lg_sl ([.ref (ad 0), .int p0, .int p1]) ++ List.replicate (4 - (lg_sl ([.ref (ad 0), .int p0, .int p1])).length) Slot.unset).toArray = ls at hl ⊢
  replace hl : lv_has ls 4 [(0, .ref (ad 0)), (1, .int p0), (2, .int p1)] := hl
  refine w_gen (fun Q hQ => ?_)
  refine lv_iload_n hx hb dX9_limit_0 rfl (lv_at hl 1 rfl) ?_
  rcases gx_xx h with ⟨y1, u2, hc3, h⟩ | ⟨u2, hc3, ew⟩
  · refine cc_vS (As := [.int p0]) (rest := []) ⟨hx, hb, hml, hown, hts⟩ (k_X9_needSection l D cI cZ ad u p0 hc3) (va_cwS 1 hts (gwS mw_595 mw_596 mw_48 mw_597) rfl rfl rfl (by decide +kernel) ⟨Nat.le_of_ble_eq_true rfl, Nat.le_of_ble_eq_true rfl⟩) hK hP hD hS hA hZ rfl hl.1 rfl (Nat.le_of_ble_eq_true rfl) dX9_limit_1 ⟨Nat.zero_le _, Nat.zero_le _⟩ (fun H locs hP hD hS => ?_)
    refine lv_iload_n hx hb dX9_limit_4 rfl (lv_at hl 2 rfl) ?_
    refine lv_iconst (v := (-1)) hx hb dX9_limit_5 (by decide) ?_
    obtain ⟨j21_4, ej21_4, h⟩ := gx_let h
    have hj21_4 : ∀ (z0_21 : Int32) (H : Heap) (locs : List Loc) (ls : Array Slot), j21_4 z0_21 = some (.inr E, w') → va_P D vwCl (wC cI cZ ad u2) H → va_D A (wC cI cZ ad u2) → va_S A s.heap H locs → lv_has ls 4 [(0, .ref (ad 0)), (1, .int p0), (2, .int p1)] → W p l e rx_X9_limit s m ([.ref (ad 0), .int p0, .int p1] : List Value).toArray below meth c H locs 0 0 Q (F0 m 21 ls [.int z0_21]) := by
      intro z0_21 H locs ls h hP hD hS hl
      subst ej21_4
      rcases gx_xx h with ⟨y5, u6, hc7, h⟩ | ⟨u6, hc7, ew⟩
      · refine cc_vS (As := [.int z0_21]) (rest := []) ⟨hx, hb, hml, hown, hts⟩ (k_X9_needArgument l D cI cZ ad u2 z0_21 hc7) (va_cwS 1 hts (gwS mw_392 mw_393 mw_48 mw_394) rfl rfl rfl (by decide +kernel) ⟨Nat.le_of_ble_eq_true rfl, Nat.le_of_ble_eq_true rfl⟩) hK hP hD hS hA hZ rfl hl.1 rfl (Nat.le_of_ble_eq_true rfl) dX9_limit_21 ⟨Nat.zero_le _, Nat.zero_le _⟩ (fun H locs hP hD hS => ?_)
        refine lv_aload_n hx hb dX9_limit_24 rfl (lv_at hl 0 rfl) ?_
        refine va_get (D := D) (ci := 9) (v := .ref (ad 3)) (C := RX9) (T := TX9) (N := 10) hx hb hts iX9 hown hK hP 0 rfl rfl 3 (by decide) hf30 (fun _ h9 => h9) rfl dX9_limit_25 ?_
        refine va_get (D := D) (ci := 7) (v := .ref (ad 15)) (C := RX7) (T := TX7) (N := 4) hx hb hts iX7 hown hK hP 3 rfl rfl 0 (by decide) hf162 (fun _ h9 => h9) rfl dX9_limit_28 ?_
        refine lv_iload_n hx hb dX9_limit_31 rfl (lv_at hl 1 rfl) ?_
        obtain ⟨b8, h⟩ := gx_in h
        refine va_iald (D := D) hx hb hK hP 15 0 rfl rfl b8 dX9_limit_32 ?_
        obtain ⟨v9, ev9, h⟩ := gx_let h
        refine lv_topn ev9 ?_
        refine lv_istore_n (lv' := [(3, .int v9), (0, .ref (ad 0)), (1, .int p0), (2, .int p1)]) hx hb dX9_limit_33 rfl hl (by decide) rfl (fun ls hl => ?_)
        refine lv_aload_n hx hb dX9_limit_34 rfl (lv_at hl 1 rfl) ?_
        refine va_get (D := D) (ci := 9) (v := .ref (ad 3)) (C := RX9) (T := TX9) (N := 10) hx hb hts iX9 hown hK hP 0 rfl rfl 3 (by decide) hf30 (fun _ h9 => h9) rfl dX9_limit_35 ?_
        refine va_get (D := D) (ci := 7) (v := .ref (ad 15)) (C := RX7) (T := TX7) (N := 4) hx hb hts iX7 hown hK hP 3 rfl rfl 0 (by decide) hf162 (fun _ h9 => h9) rfl dX9_limit_38 ?_
        refine lv_iload_n hx hb dX9_limit_41 rfl (lv_at hl 2 rfl) ?_
        refine lv_iload_n hx hb dX9_limit_42 rfl (lv_at hl 3 rfl) ?_
        obtain ⟨b10, h⟩ := gx_in h
        refine va_iast (D := D) hx hb hK hP hD hS 15 0 rfl rfl b10 dX9_limit_43 (fun H locs hP hD hS => ?_)
        obtain ⟨u11, eu11, h⟩ := gx_let h
        replace hP : va_P D vwCl (wC cI cZ ad u11) H := by rw [← eu11]; exact hP
        replace hD : va_D A (wC cI cZ ad u11) := by rw [← eu11]; exact hD
        refine lv_iload_n hx hb dX9_limit_44 rfl (lv_at hl 0 rfl) ?_
        cases h
      · replace ew : u6 = w' := ew
        subst ew
        refine cX_vS (As := [.int z0_21]) (rest := []) ⟨hx, hb, hml, hown, hts⟩ (kx_X9_needArgument l hl0 D cI cZ ad u2 z0_21 hc7) (va_cwS 1 hts (gwS mw_392 mw_393 mw_48 mw_394) rfl rfl rfl (by decide +kernel) ⟨Nat.le_of_ble_eq_true rfl, Nat.le_of_ble_eq_true rfl⟩) hK hP hD hS hA hZ rfl hl.1 rfl (Nat.le_of_ble_eq_true rfl) dX9_limit_21 ⟨Nat.le_of_ble_eq_true rfl, Nat.le_of_ble_eq_true rfl⟩ (fun ce q9 H locs hP hD hS h1 h2 h3 => ?_)
        exact cX_back hAe hQ hout hlocks hK rfl hP hD hS h1 h2 h3 (Nat.le_refl _) (Nat.le_refl _)
    obtain ⟨j16_12, ej16_12, h⟩ := gx_let h
    have hj16_12 : ∀ (H : Heap) (locs : List Loc) (ls : Array Slot), j16_12 () = some (.inr E, w') → va_P D vwCl (wC cI cZ ad u2) H → va_D A (wC cI cZ ad u2) → va_S A s.heap H locs → lv_has ls 4 [(0, .ref (ad 0)), (1, .int p0), (2, .int p1)] → W p l e rx_X9_limit s m ([.ref (ad 0), .int p0, .int p1] : List Value).toArray below meth c H locs 0 0 Q (F0 m 16 ls []) := by
      intro  H locs ls h hP hD hS hl
      subst ej16_12
      refine lv_iconst (v := 1) hx hb dX9_limit_16 (by decide) ?_
      refine lv_goto (tgt := 21) hx hb dX9_limit_17 (by decide) ?_
      exact hj21_4 (1 : Int32) _ _ _ h hP hD hS (lv_sub hl [0, 1, 2] rfl)
    refine lv_icmp_eq (tgt := 16) hx hb dX9_limit_6 (by decide) (fun c13 => ?_) (fun c13 => ?_)
    · replace h := gx_t c13 h
      exact hj16_12 _ _ _ h hP hD hS (lv_sub hl [0, 1, 2] rfl)
    · replace h := gx_f c13 h
      refine lv_iload_n hx hb dX9_limit_9 rfl (lv_at hl 2 rfl) ?_
      obtain ⟨y14, hc15, h⟩ := gx_bind h
      refine cc_iS (As := [.int p1]) (rest := []) ⟨hx, hb, hml, hown, hts⟩ (k_X9_isSpeedSign l D cI cZ ad u2 p1 hc15) (va_cwS 1 hts (gwS mw_659 mw_660 mw_48 mw_661) rfl rfl rfl (by decide +kernel) ⟨Nat.le_of_ble_eq_true rfl, Nat.le_of_ble_eq_true rfl⟩) hK hP hD hS hA hZ rfl hl.1 rfl (Nat.le_of_ble_eq_true rfl) dX9_limit_10 ⟨Nat.zero_le _, Nat.zero_le _⟩ (fun H locs hP hD hS => ?_)
      refine lv_if_eq (tgt := 20) hx hb dX9_limit_13 (by decide) (fun c16 => ?_) (fun c16 => ?_)
      · replace h := gx_t c16 h
        refine lv_iconst (v := 0) hx hb dX9_limit_20 (by decide) ?_
        exact hj21_4 (0 : Int32) _ _ _ h hP hD hS (lv_sub hl [0, 1, 2] rfl)
      · replace h := gx_f c16 h
        exact hj16_12 _ _ _ h hP hD hS (lv_sub hl [0, 1, 2] rfl)
  · replace ew : u2 = w' := ew
    subst ew
    refine cX_vS (As := [.int p0]) (rest := []) ⟨hx, hb, hml, hown, hts⟩ (kx_X9_needSection l hl0 D cI cZ ad u p0 hc3) (va_cwS 1 hts (gwS mw_595 mw_596 mw_48 mw_597) rfl rfl rfl (by decide +kernel) ⟨Nat.le_of_ble_eq_true rfl, Nat.le_of_ble_eq_true rfl⟩) hK hP hD hS hA hZ rfl hl.1 rfl (Nat.le_of_ble_eq_true rfl) dX9_limit_1 ⟨Nat.le_of_ble_eq_true rfl, Nat.le_of_ble_eq_true rfl⟩ (fun ce q9 H locs hP hD hS h1 h2 h3 => ?_)
    exact cX_back hAe hQ hout hlocks hK rfl hP hD hS h1 h2 h3 (Nat.le_refl _) (Nat.le_refl _)

def rX9_order : Room := { frames := 3, cells := 0, slots := 0, locals := 63 }
set_option maxHeartbeats 4000000 in
set_option maxRecDepth 100000 in
theorem k_X9_order (l : Launch) (D : va_G) (cI cZ : ClassId) (ad : Nat → Nat) (u : GS) (p0 : Int32) (p1 : Int32) (p2 : Int32) {r : Int32} {w' : GS} (h : g_X9_order u p0 p1 p2 = some (.inl r, w')) : MI l yX9_order (wm yX9_order cX9_order 6 (some .int)) rX9_order D [(cI, .int), (cZ, .boolean)] (wC cI cZ ad u) (wC cI cZ ad w') [.ref (ad 0), .int p0, .int p1, .int p2] r := by
  intro sz
  refine Met.ofW (cc := cX9_order) (maxL := 6) (ret := (some .int)) (by decide) rfl ?_
  intro p e s m args below meth c s₁ B hml hv
  obtain ⟨rfl, hsz, hP, hK, hD0, hZ⟩ := hv
  have hx := B.exec
  have hb := B.bytes
  have hr := B.returns
  have hts : ∀ w ∈ Wall, w.before _ s = true := fun w hw => atoms_spec (ws := wm yX9_order cX9_order 6 (some .int)) B.pre w (List.mem_cons_of_mem _ hw)
  have hown : s.vm.findClass RX9 = some m.cls := findClass_of_methodNamed B.named
  have hlocks := B.notSynchronized
  subst hsz
  have hD := hD0.self (sz := s.heap.size)
  generalize hAe : va_A (wC cI cZ ad u) s.heap.size = A at hD hZ ⊢
  have hA : ∀ q : Nat, s.heap.size ≤ q → A q := fun q h => by rw [← hAe]; exact Or.inr h
  have hS : va_S A s.heap s.heap [] := va_S.rf
  have hf37 := hts _ mw_308
  have hf165 := hts _ mw_155
  have hl := lv_entry ([.ref (ad 0), .int p0, .int p1, .int p2]) (n := 6) (Nat.le_of_ble_eq_true rfl)
  rw [lg_entry_eq]
  generalize (lg_sl ([.ref (ad 0), .int p0, .int p1, .int p2]) ++ List.replicate (6 - (lg_sl ([.ref (ad 0), .int p0, .int p1, .int p2])).length) Slot.unset).toArray = ls at hl ⊢
  replace hl : lv_has ls 6 [(0, .ref (ad 0)), (1, .int p0), (2, .int p1), (3, .int p2)] := hl
  refine w_gen (fun Q hQ => ?_)
  refine lv_iload_n hx hb dX9_order_0 rfl (lv_at hl 1 rfl) ?_
  refine lv_iload_n hx hb dX9_order_1 rfl (lv_at hl 2 rfl) ?_
  obtain ⟨y1, u2, hc3, h⟩ := gx_xr h
  refine cc_vS (As := [.int p0, .int p1]) (rest := []) ⟨hx, hb, hml, hown, hts⟩ (k_X9_needPlace l D cI cZ ad u p0 p1 hc3) (va_cwS 2 hts (gwS mw_592 mw_593 mw_48 mw_594) rfl rfl rfl (by decide +kernel) ⟨Nat.le_of_ble_eq_true rfl, Nat.le_of_ble_eq_true rfl⟩) hK hP hD hS hA hZ rfl hl.1 rfl (Nat.le_of_ble_eq_true rfl) dX9_order_2 ⟨Nat.zero_le _, Nat.zero_le _⟩ (fun H locs hP hD hS => ?_)
  refine lv_iload_n hx hb dX9_order_5 rfl (lv_at hl 3 rfl) ?_
  refine lv_iconst (v := (-1)) hx hb dX9_order_6 (by decide) ?_
  obtain ⟨j24_4, ej24_4, h⟩ := gx_let h
  have hj24_4 : ∀ (z0_24 : Int32) (H : Heap) (locs : List Loc) (ls : Array Slot), j24_4 z0_24 = some (.inl r, w') → va_P D vwCl (wC cI cZ ad u2) H → va_D A (wC cI cZ ad u2) → va_S A s.heap H locs → lv_has ls 6 [(0, .ref (ad 0)), (1, .int p0), (2, .int p1), (3, .int p2)] → W p l e rX9_order s m ([.ref (ad 0), .int p0, .int p1, .int p2] : List Value).toArray below meth c H locs 0 0 Q (F0 m 24 ls [.int z0_24]) := by
    intro z0_24 H locs ls h hP hD hS hl
    subst ej24_4
    obtain ⟨y5, u6, hc7, h⟩ := gx_xr h
    refine cc_vS (As := [.int z0_24]) (rest := []) ⟨hx, hb, hml, hown, hts⟩ (k_X9_needArgument l D cI cZ ad u2 z0_24 hc7) (va_cwS 1 hts (gwS mw_392 mw_393 mw_48 mw_394) rfl rfl rfl (by decide +kernel) ⟨Nat.le_of_ble_eq_true rfl, Nat.le_of_ble_eq_true rfl⟩) hK hP hD hS hA hZ rfl hl.1 rfl (Nat.le_of_ble_eq_true rfl) dX9_order_24 ⟨Nat.zero_le _, Nat.zero_le _⟩ (fun H locs hP hD hS => ?_)
    refine lv_iload_n hx hb dX9_order_27 rfl (lv_at hl 3 rfl) ?_
    refine lv_iconst (v := 2) hx hb dX9_order_28 (by decide) ?_
    obtain ⟨j41_8, ej41_8, h⟩ := gx_let h
    have hj41_8 : ∀ (z0_41 : Int32) (H : Heap) (locs : List Loc) (ls : Array Slot), j41_8 z0_41 = some (.inl r, w') → va_P D vwCl (wC cI cZ ad u6) H → va_D A (wC cI cZ ad u6) → va_S A s.heap H locs → lv_has ls 6 [(0, .ref (ad 0)), (1, .int p0), (2, .int p1), (3, .int p2)] → W p l e rX9_order s m ([.ref (ad 0), .int p0, .int p1, .int p2] : List Value).toArray below meth c H locs 0 0 Q (F0 m 41 ls [.int z0_41]) := by
      intro z0_41 H locs ls h hP hD hS hl
      subst ej41_8
      obtain ⟨y9, u10, hc11, h⟩ := gx_xr h
      refine cc_vS (As := [.int z0_41]) (rest := []) ⟨hx, hb, hml, hown, hts⟩ (k_X9_needState l D cI cZ ad u6 z0_41 hc11) (va_cwS 1 hts (gwS mw_471 mw_472 mw_48 mw_473) rfl rfl rfl (by decide +kernel) ⟨Nat.le_of_ble_eq_true rfl, Nat.le_of_ble_eq_true rfl⟩) hK hP hD hS hA hZ rfl hl.1 rfl (Nat.le_of_ble_eq_true rfl) dX9_order_41 ⟨Nat.zero_le _, Nat.zero_le _⟩ (fun H locs hP hD hS => ?_)
      refine lv_iload_n hx hb dX9_order_44 rfl (lv_at hl 1 rfl) ?_
      refine lv_iload_n hx hb dX9_order_45 rfl (lv_at hl 2 rfl) ?_
      obtain ⟨y12, hc13, h⟩ := gx_bind h
      refine cc_iS (As := [.int p0, .int p1]) (rest := []) ⟨hx, hb, hml, hown, hts⟩ (k_X9_placeOf l D cI cZ ad u10 p0 p1 hc13) (va_cwS 2 hts (gwS mw_617 mw_266 mw_48 mw_267) rfl rfl rfl (by decide +kernel) ⟨Nat.le_of_ble_eq_true rfl, Nat.le_of_ble_eq_true rfl⟩) hK hP hD hS hA hZ rfl hl.1 rfl (Nat.le_of_ble_eq_true rfl) dX9_order_46 ⟨Nat.zero_le _, Nat.zero_le _⟩ (fun H locs hP hD hS => ?_)
      refine lv_istore (lv' := [(4, .int y12), (0, .ref (ad 0)), (1, .int p0), (2, .int p1), (3, .int p2)]) hx hb dX9_order_49 hl (by decide) rfl (fun ls hl => ?_)
      refine lv_aload_n hx hb dX9_order_51 rfl (lv_at hl 1 rfl) ?_
      refine va_get (D := D) (ci := 9) (v := .ref (ad 4)) (C := RX9) (T := TX9) (N := 10) hx hb hts iX9 hown hK hP 0 rfl rfl 4 (by decide) hf37 (fun _ h9 => h9) rfl dX9_order_52 ?_
      refine va_get (D := D) (ci := 3) (v := .ref (ad 18)) (C := RX3) (T := TX3) (N := 3) hx hb hts iX3 hown hK hP 4 rfl rfl 0 (by decide) hf165 (fun _ h9 => h9) rfl dX9_order_55 ?_
      refine lv_iload hx hb dX9_order_58 (lv_at hl 0 rfl) ?_
      obtain ⟨b14, h⟩ := gx_in h
      refine va_iald (D := D) hx hb hK hP 18 0 rfl rfl b14 dX9_order_60 ?_
      obtain ⟨v15, ev15, h⟩ := gx_let h
      refine lv_topn ev15 ?_
      refine lv_istore (lv' := [(5, .int v15), (4, .int y12), (0, .ref (ad 0)), (1, .int p0), (2, .int p1), (3, .int p2)]) hx hb dX9_order_61 hl (by decide) rfl (fun ls hl => ?_)
      refine lv_aload_n hx hb dX9_order_63 rfl (lv_at hl 2 rfl) ?_
      refine va_get (D := D) (ci := 9) (v := .ref (ad 4)) (C := RX9) (T := TX9) (N := 10) hx hb hts iX9 hown hK hP 0 rfl rfl 4 (by decide) hf37 (fun _ h9 => h9) rfl dX9_order_64 ?_
      refine va_get (D := D) (ci := 3) (v := .ref (ad 18)) (C := RX3) (T := TX3) (N := 3) hx hb hts iX3 hown hK hP 4 rfl rfl 0 (by decide) hf165 (fun _ h9 => h9) rfl dX9_order_67 ?_
      refine lv_iload hx hb dX9_order_70 (lv_at hl 1 rfl) ?_
      refine lv_iload_n hx hb dX9_order_72 rfl (lv_at hl 5 rfl) ?_
      obtain ⟨b16, h⟩ := gx_in h
      refine va_iast (D := D) hx hb hK hP hD hS 18 0 rfl rfl b16 dX9_order_73 (fun H locs hP hD hS => ?_)
      obtain ⟨u17, eu17, h⟩ := gx_let h
      replace hP : va_P D vwCl (wC cI cZ ad u17) H := by rw [← eu17]; exact hP
      replace hD : va_D A (wC cI cZ ad u17) := by rw [← eu17]; exact hD
      refine lv_iload hx hb dX9_order_74 (lv_at hl 0 rfl) ?_
      cases h
      exact cc_ret hx hb hr rfl hQ hK hP hD hS rfl dX9_order_76 hlocks
    obtain ⟨j36_18, ej36_18, h⟩ := gx_let h
    have hj36_18 : ∀ (H : Heap) (locs : List Loc) (ls : Array Slot), j36_18 () = some (.inl r, w') → va_P D vwCl (wC cI cZ ad u6) H → va_D A (wC cI cZ ad u6) → va_S A s.heap H locs → lv_has ls 6 [(0, .ref (ad 0)), (1, .int p0), (2, .int p1), (3, .int p2)] → W p l e rX9_order s m ([.ref (ad 0), .int p0, .int p1, .int p2] : List Value).toArray below meth c H locs 0 0 Q (F0 m 36 ls []) := by
      intro  H locs ls h hP hD hS hl
      subst ej36_18
      refine lv_iconst (v := 1) hx hb dX9_order_36 (by decide) ?_
      refine lv_goto (tgt := 41) hx hb dX9_order_37 (by decide) ?_
      exact hj41_8 (1 : Int32) _ _ _ h hP hD hS (lv_sub hl [0, 1, 2, 3] rfl)
    refine lv_icmp_ne (tgt := 36) hx hb dX9_order_29 (by decide) (fun c19 => ?_) (fun c19 => ?_)
    · replace h := gx_f c19 h
      exact hj36_18 _ _ _ h hP hD hS (lv_sub hl [0, 1, 2, 3] rfl)
    · replace h := gx_t c19 h
      refine lv_iload_n hx hb dX9_order_32 rfl (lv_at hl 1 rfl) ?_
      refine lv_if_eq (tgt := 40) hx hb dX9_order_33 (by decide) (fun c20 => ?_) (fun c20 => ?_)
      · replace h := gx_t c20 h
        refine lv_iconst (v := 0) hx hb dX9_order_40 (by decide) ?_
        exact hj41_8 (0 : Int32) _ _ _ h hP hD hS (lv_sub hl [0, 1, 2, 3] rfl)
      · replace h := gx_f c20 h
        exact hj36_18 _ _ _ h hP hD hS (lv_sub hl [0, 1, 2, 3] rfl)
  obtain ⟨j19_21, ej19_21, h⟩ := gx_let h
  have hj19_21 : ∀ (H : Heap) (locs : List Loc) (ls : Array Slot), j19_21 () = some (.inl r, w') → va_P D vwCl (wC cI cZ ad u2) H → va_D A (wC cI cZ ad u2) → va_S A s.heap H locs → lv_has ls 6 [(0, .ref (ad 0)), (1, .int p0), (2, .int p1), (3, .int p2)] → W p l e rX9_order s m ([.ref (ad 0), .int p0, .int p1, .int p2] : List Value).toArray below meth c H locs 0 0 Q (F0 m 19 ls []) := by
    intro  H locs ls h hP hD hS hl
    subst ej19_21
    refine lv_iconst (v := 1) hx hb dX9_order_19 (by decide) ?_
    refine lv_goto (tgt := 24) hx hb dX9_order_20 (by decide) ?_
    exact hj24_4 (1 : Int32) _ _ _ h hP hD hS (lv_sub hl [0, 1, 2, 3] rfl)
  refine lv_icmp_eq (tgt := 19) hx hb dX9_order_7 (by decide) (fun c22 => ?_) (fun c22 => ?_)
  · replace h := gx_t c22 h
    exact hj19_21 _ _ _ h hP hD hS (lv_sub hl [0, 1, 2, 3] rfl)
  · replace h := gx_f c22 h
    refine lv_iload_n hx hb dX9_order_10 rfl (lv_at hl 3 rfl) ?_
    refine lv_iconst (v := 0) hx hb dX9_order_11 (by decide) ?_
    refine lv_iconst (v := 2) hx hb dX9_order_12 (by decide) ?_
    obtain ⟨y23, hc24, h⟩ := gx_bind h
    refine cc_iS (As := [.int p2, .int (0 : Int32), .int (2 : Int32)]) (rest := []) ⟨hx, hb, hml, hown, hts⟩ (k_X9_isWithin l D cI cZ ad u2 p2 (0 : Int32) (2 : Int32) hc24) (va_cwS 3 hts (gwS mw_391 mw_273 mw_48 mw_274) rfl rfl rfl (by decide +kernel) ⟨Nat.le_of_ble_eq_true rfl, Nat.le_of_ble_eq_true rfl⟩) hK hP hD hS hA hZ rfl hl.1 rfl (Nat.le_of_ble_eq_true rfl) dX9_order_13 ⟨Nat.zero_le _, Nat.zero_le _⟩ (fun H locs hP hD hS => ?_)
    refine lv_if_eq (tgt := 23) hx hb dX9_order_16 (by decide) (fun c25 => ?_) (fun c25 => ?_)
    · replace h := gx_t c25 h
      refine lv_iconst (v := 0) hx hb dX9_order_23 (by decide) ?_
      exact hj24_4 (0 : Int32) _ _ _ h hP hD hS (lv_sub hl [0, 1, 2, 3] rfl)
    · replace h := gx_f c25 h
      exact hj19_21 _ _ _ h hP hD hS (lv_sub hl [0, 1, 2, 3] rfl)

def rx_X9_order : Room := { frames := 9, cells := 1, slots := 6, locals := 151 }
set_option maxHeartbeats 4000000 in
set_option maxRecDepth 100000 in
theorem kx_X9_order (l : Launch) (hl0 : l.stackTraces = false) (D : va_G) (cI cZ : ClassId) (ad : Nat → Nat) (u : GS) (p0 : Int32) (p1 : Int32) (p2 : Int32) {E : String} {w' : GS} (h : g_X9_order u p0 p1 p2 = some (.inr E, w')) : XI l yX9_order (wm yX9_order cX9_order 6 (some .int)) rx_X9_order D [(cI, .int), (cZ, .boolean)] (wC cI cZ ad u) (wC cI cZ ad w') [.ref (ad 0), .int p0, .int p1, .int p2] E := by
  intro sz
  refine vx_ofW (cc := cX9_order) (maxL := 6) (ret := (some .int)) (by decide) rfl ?_
  intro p e s m args below meth c s₁ B hml hout hv
  obtain ⟨rfl, hsz, hP, hK, hD0, hZ⟩ := hv
  have hx := B.exec
  have hb := B.bytes
  have hts : ∀ w ∈ Wall, w.before _ s = true := fun w hw => atoms_spec (ws := wm yX9_order cX9_order 6 (some .int)) B.pre w (List.mem_cons_of_mem _ hw)
  have hown : s.vm.findClass RX9 = some m.cls := findClass_of_methodNamed B.named
  have hlocks := B.notSynchronized
  subst hsz
  have hD := hD0.self (sz := s.heap.size)
  generalize hAe : va_A (wC cI cZ ad u) s.heap.size = A at hD hZ
  have hA : ∀ q : Nat, s.heap.size ≤ q → A q := fun q h => by rw [← hAe]; exact Or.inr h
  have hS : va_S A s.heap s.heap [] := va_S.rf
  have hf37 := hts _ mw_308
  have hf165 := hts _ mw_155
  have hl := lv_entry ([.ref (ad 0), .int p0, .int p1, .int p2]) (n := 6) (Nat.le_of_ble_eq_true rfl)
  rw [lg_entry_eq]
  generalize (lg_sl ([.ref (ad 0), .int p0, .int p1, .int p2]) ++ List.replicate (6 - (lg_sl ([.ref (ad 0), .int p0, .int p1, .int p2])).length) Slot.unset).toArray = ls at hl ⊢
  replace hl : lv_has ls 6 [(0, .ref (ad 0)), (1, .int p0), (2, .int p1), (3, .int p2)] := hl
  refine w_gen (fun Q hQ => ?_)
  refine lv_iload_n hx hb dX9_order_0 rfl (lv_at hl 1 rfl) ?_
  refine lv_iload_n hx hb dX9_order_1 rfl (lv_at hl 2 rfl) ?_
  rcases gx_xx h with ⟨y1, u2, hc3, h⟩ | ⟨u2, hc3, ew⟩
  · refine cc_vS (As := [.int p0, .int p1]) (rest := []) ⟨hx, hb, hml, hown, hts⟩ (k_X9_needPlace l D cI cZ ad u p0 p1 hc3) (va_cwS 2 hts (gwS mw_592 mw_593 mw_48 mw_594) rfl rfl rfl (by decide +kernel) ⟨Nat.le_of_ble_eq_true rfl, Nat.le_of_ble_eq_true rfl⟩) hK hP hD hS hA hZ rfl hl.1 rfl (Nat.le_of_ble_eq_true rfl) dX9_order_2 ⟨Nat.zero_le _, Nat.zero_le _⟩ (fun H locs hP hD hS => ?_)
    refine lv_iload_n hx hb dX9_order_5 rfl (lv_at hl 3 rfl) ?_
    refine lv_iconst (v := (-1)) hx hb dX9_order_6 (by decide) ?_
    obtain ⟨j24_4, ej24_4, h⟩ := gx_let h
    have hj24_4 : ∀ (z0_24 : Int32) (H : Heap) (locs : List Loc) (ls : Array Slot), j24_4 z0_24 = some (.inr E, w') → va_P D vwCl (wC cI cZ ad u2) H → va_D A (wC cI cZ ad u2) → va_S A s.heap H locs → lv_has ls 6 [(0, .ref (ad 0)), (1, .int p0), (2, .int p1), (3, .int p2)] → W p l e rx_X9_order s m ([.ref (ad 0), .int p0, .int p1, .int p2] : List Value).toArray below meth c H locs 0 0 Q (F0 m 24 ls [.int z0_24]) := by
      intro z0_24 H locs ls h hP hD hS hl
      subst ej24_4
      rcases gx_xx h with ⟨y5, u6, hc7, h⟩ | ⟨u6, hc7, ew⟩
      · refine cc_vS (As := [.int z0_24]) (rest := []) ⟨hx, hb, hml, hown, hts⟩ (k_X9_needArgument l D cI cZ ad u2 z0_24 hc7) (va_cwS 1 hts (gwS mw_392 mw_393 mw_48 mw_394) rfl rfl rfl (by decide +kernel) ⟨Nat.le_of_ble_eq_true rfl, Nat.le_of_ble_eq_true rfl⟩) hK hP hD hS hA hZ rfl hl.1 rfl (Nat.le_of_ble_eq_true rfl) dX9_order_24 ⟨Nat.zero_le _, Nat.zero_le _⟩ (fun H locs hP hD hS => ?_)
        refine lv_iload_n hx hb dX9_order_27 rfl (lv_at hl 3 rfl) ?_
        refine lv_iconst (v := 2) hx hb dX9_order_28 (by decide) ?_
        obtain ⟨j41_8, ej41_8, h⟩ := gx_let h
        have hj41_8 : ∀ (z0_41 : Int32) (H : Heap) (locs : List Loc) (ls : Array Slot), j41_8 z0_41 = some (.inr E, w') → va_P D vwCl (wC cI cZ ad u6) H → va_D A (wC cI cZ ad u6) → va_S A s.heap H locs → lv_has ls 6 [(0, .ref (ad 0)), (1, .int p0), (2, .int p1), (3, .int p2)] → W p l e rx_X9_order s m ([.ref (ad 0), .int p0, .int p1, .int p2] : List Value).toArray below meth c H locs 0 0 Q (F0 m 41 ls [.int z0_41]) := by
          intro z0_41 H locs ls h hP hD hS hl
          subst ej41_8
          rcases gx_xx h with ⟨y9, u10, hc11, h⟩ | ⟨u10, hc11, ew⟩
          · refine cc_vS (As := [.int z0_41]) (rest := []) ⟨hx, hb, hml, hown, hts⟩ (k_X9_needState l D cI cZ ad u6 z0_41 hc11) (va_cwS 1 hts (gwS mw_471 mw_472 mw_48 mw_473) rfl rfl rfl (by decide +kernel) ⟨Nat.le_of_ble_eq_true rfl, Nat.le_of_ble_eq_true rfl⟩) hK hP hD hS hA hZ rfl hl.1 rfl (Nat.le_of_ble_eq_true rfl) dX9_order_41 ⟨Nat.zero_le _, Nat.zero_le _⟩ (fun H locs hP hD hS => ?_)
            refine lv_iload_n hx hb dX9_order_44 rfl (lv_at hl 1 rfl) ?_
            refine lv_iload_n hx hb dX9_order_45 rfl (lv_at hl 2 rfl) ?_
            obtain ⟨y12, hc13, h⟩ := gx_bind h
            refine cc_iS (As := [.int p0, .int p1]) (rest := []) ⟨hx, hb, hml, hown, hts⟩ (k_X9_placeOf l D cI cZ ad u10 p0 p1 hc13) (va_cwS 2 hts (gwS mw_617 mw_266 mw_48 mw_267) rfl rfl rfl (by decide +kernel) ⟨Nat.le_of_ble_eq_true rfl, Nat.le_of_ble_eq_true rfl⟩) hK hP hD hS hA hZ rfl hl.1 rfl (Nat.le_of_ble_eq_true rfl) dX9_order_46 ⟨Nat.zero_le _, Nat.zero_le _⟩ (fun H locs hP hD hS => ?_)
            refine lv_istore (lv' := [(4, .int y12), (0, .ref (ad 0)), (1, .int p0), (2, .int p1), (3, .int p2)]) hx hb dX9_order_49 hl (by decide) rfl (fun ls hl => ?_)
            refine lv_aload_n hx hb dX9_order_51 rfl (lv_at hl 1 rfl) ?_
            refine va_get (D := D) (ci := 9) (v := .ref (ad 4)) (C := RX9) (T := TX9) (N := 10) hx hb hts iX9 hown hK hP 0 rfl rfl 4 (by decide) hf37 (fun _ h9 => h9) rfl dX9_order_52 ?_
            refine va_get (D := D) (ci := 3) (v := .ref (ad 18)) (C := RX3) (T := TX3) (N := 3) hx hb hts iX3 hown hK hP 4 rfl rfl 0 (by decide) hf165 (fun _ h9 => h9) rfl dX9_order_55 ?_
            refine lv_iload hx hb dX9_order_58 (lv_at hl 0 rfl) ?_
            obtain ⟨b14, h⟩ := gx_in h
            refine va_iald (D := D) hx hb hK hP 18 0 rfl rfl b14 dX9_order_60 ?_
            obtain ⟨v15, ev15, h⟩ := gx_let h
            refine lv_topn ev15 ?_
            refine lv_istore (lv' := [(5, .int v15), (4, .int y12), (0, .ref (ad 0)), (1, .int p0), (2, .int p1), (3, .int p2)]) hx hb dX9_order_61 hl (by decide) rfl (fun ls hl => ?_)
            refine lv_aload_n hx hb dX9_order_63 rfl (lv_at hl 2 rfl) ?_
            refine va_get (D := D) (ci := 9) (v := .ref (ad 4)) (C := RX9) (T := TX9) (N := 10) hx hb hts iX9 hown hK hP 0 rfl rfl 4 (by decide) hf37 (fun _ h9 => h9) rfl dX9_order_64 ?_
            refine va_get (D := D) (ci := 3) (v := .ref (ad 18)) (C := RX3) (T := TX3) (N := 3) hx hb hts iX3 hown hK hP 4 rfl rfl 0 (by decide) hf165 (fun _ h9 => h9) rfl dX9_order_67 ?_
            refine lv_iload hx hb dX9_order_70 (lv_at hl 1 rfl) ?_
            refine lv_iload_n hx hb dX9_order_72 rfl (lv_at hl 5 rfl) ?_
            obtain ⟨b16, h⟩ := gx_in h
            refine va_iast (D := D) hx hb hK hP hD hS 18 0 rfl rfl b16 dX9_order_73 (fun H locs hP hD hS => ?_)
            obtain ⟨u17, eu17, h⟩ := gx_let h
            replace hP : va_P D vwCl (wC cI cZ ad u17) H := by rw [← eu17]; exact hP
            replace hD : va_D A (wC cI cZ ad u17) := by rw [← eu17]; exact hD
            refine lv_iload hx hb dX9_order_74 (lv_at hl 0 rfl) ?_
            cases h
          · replace ew : u10 = w' := ew
            subst ew
            refine cX_vS (As := [.int z0_41]) (rest := []) ⟨hx, hb, hml, hown, hts⟩ (kx_X9_needState l hl0 D cI cZ ad u6 z0_41 hc11) (va_cwS 1 hts (gwS mw_471 mw_472 mw_48 mw_473) rfl rfl rfl (by decide +kernel) ⟨Nat.le_of_ble_eq_true rfl, Nat.le_of_ble_eq_true rfl⟩) hK hP hD hS hA hZ rfl hl.1 rfl (Nat.le_of_ble_eq_true rfl) dX9_order_41 ⟨Nat.le_of_ble_eq_true rfl, Nat.le_of_ble_eq_true rfl⟩ (fun ce q9 H locs hP hD hS h1 h2 h3 => ?_)
            exact cX_back hAe hQ hout hlocks hK rfl hP hD hS h1 h2 h3 (Nat.le_refl _) (Nat.le_refl _)
        obtain ⟨j36_18, ej36_18, h⟩ := gx_let h
        have hj36_18 : ∀ (H : Heap) (locs : List Loc) (ls : Array Slot), j36_18 () = some (.inr E, w') → va_P D vwCl (wC cI cZ ad u6) H → va_D A (wC cI cZ ad u6) → va_S A s.heap H locs → lv_has ls 6 [(0, .ref (ad 0)), (1, .int p0), (2, .int p1), (3, .int p2)] → W p l e rx_X9_order s m ([.ref (ad 0), .int p0, .int p1, .int p2] : List Value).toArray below meth c H locs 0 0 Q (F0 m 36 ls []) := by
          intro  H locs ls h hP hD hS hl
          subst ej36_18
          refine lv_iconst (v := 1) hx hb dX9_order_36 (by decide) ?_
          refine lv_goto (tgt := 41) hx hb dX9_order_37 (by decide) ?_
          exact hj41_8 (1 : Int32) _ _ _ h hP hD hS (lv_sub hl [0, 1, 2, 3] rfl)
        refine lv_icmp_ne (tgt := 36) hx hb dX9_order_29 (by decide) (fun c19 => ?_) (fun c19 => ?_)
        · replace h := gx_f c19 h
          exact hj36_18 _ _ _ h hP hD hS (lv_sub hl [0, 1, 2, 3] rfl)
        · replace h := gx_t c19 h
          refine lv_iload_n hx hb dX9_order_32 rfl (lv_at hl 1 rfl) ?_
          refine lv_if_eq (tgt := 40) hx hb dX9_order_33 (by decide) (fun c20 => ?_) (fun c20 => ?_)
          · replace h := gx_t c20 h
            refine lv_iconst (v := 0) hx hb dX9_order_40 (by decide) ?_
            exact hj41_8 (0 : Int32) _ _ _ h hP hD hS (lv_sub hl [0, 1, 2, 3] rfl)
          · replace h := gx_f c20 h
            exact hj36_18 _ _ _ h hP hD hS (lv_sub hl [0, 1, 2, 3] rfl)
      · replace ew : u6 = w' := ew
        subst ew
        refine cX_vS (As := [.int z0_24]) (rest := []) ⟨hx, hb, hml, hown, hts⟩ (kx_X9_needArgument l hl0 D cI cZ ad u2 z0_24 hc7) (va_cwS 1 hts (gwS mw_392 mw_393 mw_48 mw_394) rfl rfl rfl (by decide +kernel) ⟨Nat.le_of_ble_eq_true rfl, Nat.le_of_ble_eq_true rfl⟩) hK hP hD hS hA hZ rfl hl.1 rfl (Nat.le_of_ble_eq_true rfl) dX9_order_24 ⟨Nat.le_of_ble_eq_true rfl, Nat.le_of_ble_eq_true rfl⟩ (fun ce q9 H locs hP hD hS h1 h2 h3 => ?_)
        exact cX_back hAe hQ hout hlocks hK rfl hP hD hS h1 h2 h3 (Nat.le_refl _) (Nat.le_refl _)
    obtain ⟨j19_21, ej19_21, h⟩ := gx_let h
    have hj19_21 : ∀ (H : Heap) (locs : List Loc) (ls : Array Slot), j19_21 () = some (.inr E, w') → va_P D vwCl (wC cI cZ ad u2) H → va_D A (wC cI cZ ad u2) → va_S A s.heap H locs → lv_has ls 6 [(0, .ref (ad 0)), (1, .int p0), (2, .int p1), (3, .int p2)] → W p l e rx_X9_order s m ([.ref (ad 0), .int p0, .int p1, .int p2] : List Value).toArray below meth c H locs 0 0 Q (F0 m 19 ls []) := by
      intro  H locs ls h hP hD hS hl
      subst ej19_21
      refine lv_iconst (v := 1) hx hb dX9_order_19 (by decide) ?_
      refine lv_goto (tgt := 24) hx hb dX9_order_20 (by decide) ?_
      exact hj24_4 (1 : Int32) _ _ _ h hP hD hS (lv_sub hl [0, 1, 2, 3] rfl)
    refine lv_icmp_eq (tgt := 19) hx hb dX9_order_7 (by decide) (fun c22 => ?_) (fun c22 => ?_)
    · replace h := gx_t c22 h
      exact hj19_21 _ _ _ h hP hD hS (lv_sub hl [0, 1, 2, 3] rfl)
    · replace h := gx_f c22 h
      refine lv_iload_n hx hb dX9_order_10 rfl (lv_at hl 3 rfl) ?_
      refine lv_iconst (v := 0) hx hb dX9_order_11 (by decide) ?_
      refine lv_iconst (v := 2) hx hb dX9_order_12 (by decide) ?_
      obtain ⟨y23, hc24, h⟩ := gx_bind h
      refine cc_iS (As := [.int p2, .int (0 : Int32), .int (2 : Int32)]) (rest := []) ⟨hx, hb, hml, hown, hts⟩ (k_X9_isWithin l D cI cZ ad u2 p2 (0 : Int32) (2 : Int32) hc24) (va_cwS 3 hts (gwS mw_391 mw_273 mw_48 mw_274) rfl rfl rfl (by decide +kernel) ⟨Nat.le_of_ble_eq_true rfl, Nat.le_of_ble_eq_true rfl⟩) hK hP hD hS hA hZ rfl hl.1 rfl (Nat.le_of_ble_eq_true rfl) dX9_order_13 ⟨Nat.zero_le _, Nat.zero_le _⟩ (fun H locs hP hD hS => ?_)
      refine lv_if_eq (tgt := 23) hx hb dX9_order_16 (by decide) (fun c25 => ?_) (fun c25 => ?_)
      · replace h := gx_t c25 h
        refine lv_iconst (v := 0) hx hb dX9_order_23 (by decide) ?_
        exact hj24_4 (0 : Int32) _ _ _ h hP hD hS (lv_sub hl [0, 1, 2, 3] rfl)
      · replace h := gx_f c25 h
        exact hj19_21 _ _ _ h hP hD hS (lv_sub hl [0, 1, 2, 3] rfl)
  · replace ew : u2 = w' := ew
    subst ew
    refine cX_vS (As := [.int p0, .int p1]) (rest := []) ⟨hx, hb, hml, hown, hts⟩ (kx_X9_needPlace l hl0 D cI cZ ad u p0 p1 hc3) (va_cwS 2 hts (gwS mw_592 mw_593 mw_48 mw_594) rfl rfl rfl (by decide +kernel) ⟨Nat.le_of_ble_eq_true rfl, Nat.le_of_ble_eq_true rfl⟩) hK hP hD hS hA hZ rfl hl.1 rfl (Nat.le_of_ble_eq_true rfl) dX9_order_2 ⟨Nat.le_of_ble_eq_true rfl, Nat.le_of_ble_eq_true rfl⟩ (fun ce q9 H locs hP hD hS h1 h2 h3 => ?_)
    exact cX_back hAe hQ hout hlocks hK rfl hP hD hS h1 h2 h3 (Nat.le_refl _) (Nat.le_refl _)

def rX9_sign : Room := { frames := 5, cells := 0, slots := 0, locals := 114 }
set_option maxHeartbeats 4000000 in
set_option maxRecDepth 100000 in
theorem k_X9_sign (l : Launch) (D : va_G) (cI cZ : ClassId) (ad : Nat → Nat) (u : GS) (p0 : Int32) (p1 : Int32) {r : Int32} {w' : GS} (h : g_X9_sign u p0 p1 = some (.inl r, w')) : MI l yX9_sign (wm yX9_sign cX9_sign 3 (some .int)) rX9_sign D [(cI, .int), (cZ, .boolean)] (wC cI cZ ad u) (wC cI cZ ad w') [.ref (ad 0), .int p0, .int p1] r := by
  intro sz
  refine Met.ofW (cc := cX9_sign) (maxL := 3) (ret := (some .int)) (by decide) rfl ?_
  intro p e s m args below meth c s₁ B hml hv
  obtain ⟨rfl, hsz, hP, hK, hD0, hZ⟩ := hv
  have hx := B.exec
  have hb := B.bytes
  have hr := B.returns
  have hts : ∀ w ∈ Wall, w.before _ s = true := fun w hw => atoms_spec (ws := wm yX9_sign cX9_sign 3 (some .int)) B.pre w (List.mem_cons_of_mem _ hw)
  have hown : s.vm.findClass RX9 = some m.cls := findClass_of_methodNamed B.named
  have hlocks := B.notSynchronized
  subst hsz
  have hD := hD0.self (sz := s.heap.size)
  generalize hAe : va_A (wC cI cZ ad u) s.heap.size = A at hD hZ ⊢
  have hA : ∀ q : Nat, s.heap.size ≤ q → A q := fun q h => by rw [← hAe]; exact Or.inr h
  have hS : va_S A s.heap s.heap [] := va_S.rf
  have hf37 := hts _ mw_308
  have hf84 := hts _ mw_158
  have hl := lv_entry ([.ref (ad 0), .int p0, .int p1]) (n := 3) (Nat.le_of_ble_eq_true rfl)
  rw [lg_entry_eq]
  generalize (lg_sl ([.ref (ad 0), .int p0, .int p1]) ++ List.replicate (3 - (lg_sl ([.ref (ad 0), .int p0, .int p1])).length) Slot.unset).toArray = ls at hl ⊢
  replace hl : lv_has ls 3 [(0, .ref (ad 0)), (1, .int p0), (2, .int p1)] := hl
  refine w_gen (fun Q hQ => ?_)
  refine lv_iload_n hx hb dX9_sign_0 rfl (lv_at hl 1 rfl) ?_
  refine lv_iload_n hx hb dX9_sign_1 rfl (lv_at hl 2 rfl) ?_
  obtain ⟨y1, u2, hc3, h⟩ := gx_xr h
  refine cc_vS (As := [.int p0, .int p1]) (rest := []) ⟨hx, hb, hml, hown, hts⟩ (k_X9_needPlace l D cI cZ ad u p0 p1 hc3) (va_cwS 2 hts (gwS mw_592 mw_593 mw_48 mw_594) rfl rfl rfl (by decide +kernel) ⟨Nat.le_of_ble_eq_true rfl, Nat.le_of_ble_eq_true rfl⟩) hK hP hD hS hA hZ rfl hl.1 rfl (Nat.le_of_ble_eq_true rfl) dX9_sign_2 ⟨Nat.zero_le _, Nat.zero_le _⟩ (fun H locs hP hD hS => ?_)
  refine lv_aload_n hx hb dX9_sign_5 rfl (lv_at hl 0 rfl) ?_
  obtain ⟨y4, hc5, h⟩ := gx_bind h
  refine cc_vV (As := []) (rest := []) ⟨hx, hb, hml, hown, hts⟩ (k_X9_setLaneSigns l D cI cZ ad u2 hc5) (cwV 0 hts (gwV mw_339 mw_341 mw_1 mw_48 mw_342) rfl rfl rfl (by decide +kernel) ⟨Nat.le_of_ble_eq_true rfl, Nat.le_of_ble_eq_true rfl⟩) hK hP hD hS hA hZ (ci := 9) (q0 := 0) rfl rfl rfl hl.1 rfl (Nat.le_of_ble_eq_true rfl) dX9_sign_6 ⟨Nat.zero_le _, Nat.zero_le _⟩ (fun H locs hP hD hS => ?_)
  refine lv_aload_n hx hb dX9_sign_9 rfl (lv_at hl 0 rfl) ?_
  refine va_get (D := D) (ci := 9) (v := .ref (ad 4)) (C := RX9) (T := TX9) (N := 10) hx hb hts iX9 hown hK hP 0 rfl rfl 4 (by decide) hf37 (fun _ h9 => h9) rfl dX9_sign_10 ?_
  refine va_get (D := D) (ci := 3) (v := .ref (ad 20)) (C := RX3) (T := TX3) (N := 3) hx hb hts iX3 hown hK hP 4 rfl rfl 2 (by decide) hf84 (fun _ h9 => h9) rfl dX9_sign_13 ?_
  refine lv_iload_n hx hb dX9_sign_16 rfl (lv_at hl 1 rfl) ?_
  refine lv_iload_n hx hb dX9_sign_17 rfl (lv_at hl 2 rfl) ?_
  obtain ⟨y6, hc7, h⟩ := gx_bind h
  refine cc_iS (As := [.int p0, .int p1]) (rest := [.ref (ad 20)]) ⟨hx, hb, hml, hown, hts⟩ (k_X9_placeOf l D cI cZ ad y4 p0 p1 hc7) (va_cwS 2 hts (gwS mw_617 mw_266 mw_48 mw_267) rfl rfl rfl (by decide +kernel) ⟨Nat.le_of_ble_eq_true rfl, Nat.le_of_ble_eq_true rfl⟩) hK hP hD hS hA hZ rfl hl.1 rfl (Nat.le_of_ble_eq_true rfl) dX9_sign_18 ⟨Nat.zero_le _, Nat.zero_le _⟩ (fun H locs hP hD hS => ?_)
  obtain ⟨b8, h⟩ := gx_in h
  refine va_iald (D := D) hx hb hK hP 20 0 rfl rfl b8 dX9_sign_21 ?_
  cases h
  exact cc_ret hx hb hr rfl hQ hK hP hD hS rfl dX9_sign_22 hlocks

def rx_X9_sign : Room := { frames := 9, cells := 1, slots := 6, locals := 151 }
set_option maxHeartbeats 4000000 in
set_option maxRecDepth 100000 in
theorem kx_X9_sign (l : Launch) (hl0 : l.stackTraces = false) (D : va_G) (cI cZ : ClassId) (ad : Nat → Nat) (u : GS) (p0 : Int32) (p1 : Int32) {E : String} {w' : GS} (h : g_X9_sign u p0 p1 = some (.inr E, w')) : XI l yX9_sign (wm yX9_sign cX9_sign 3 (some .int)) rx_X9_sign D [(cI, .int), (cZ, .boolean)] (wC cI cZ ad u) (wC cI cZ ad w') [.ref (ad 0), .int p0, .int p1] E := by
  intro sz
  refine vx_ofW (cc := cX9_sign) (maxL := 3) (ret := (some .int)) (by decide) rfl ?_
  intro p e s m args below meth c s₁ B hml hout hv
  obtain ⟨rfl, hsz, hP, hK, hD0, hZ⟩ := hv
  have hx := B.exec
  have hb := B.bytes
  have hts : ∀ w ∈ Wall, w.before _ s = true := fun w hw => atoms_spec (ws := wm yX9_sign cX9_sign 3 (some .int)) B.pre w (List.mem_cons_of_mem _ hw)
  have hown : s.vm.findClass RX9 = some m.cls := findClass_of_methodNamed B.named
  have hlocks := B.notSynchronized
  subst hsz
  have hD := hD0.self (sz := s.heap.size)
  generalize hAe : va_A (wC cI cZ ad u) s.heap.size = A at hD hZ
  have hA : ∀ q : Nat, s.heap.size ≤ q → A q := fun q h => by rw [← hAe]; exact Or.inr h
  have hS : va_S A s.heap s.heap [] := va_S.rf
  have hf37 := hts _ mw_308
  have hf84 := hts _ mw_158
  have hl := lv_entry ([.ref (ad 0), .int p0, .int p1]) (n := 3) (Nat.le_of_ble_eq_true rfl)
  rw [lg_entry_eq]
  generalize (lg_sl ([.ref (ad 0), .int p0, .int p1]) ++ List.replicate (3 - (lg_sl ([.ref (ad 0), .int p0, .int p1])).length) Slot.unset).toArray = ls at hl ⊢
  replace hl : lv_has ls 3 [(0, .ref (ad 0)), (1, .int p0), (2, .int p1)] := hl
  refine w_gen (fun Q hQ => ?_)
  refine lv_iload_n hx hb dX9_sign_0 rfl (lv_at hl 1 rfl) ?_
  refine lv_iload_n hx hb dX9_sign_1 rfl (lv_at hl 2 rfl) ?_
  rcases gx_xx h with ⟨y1, u2, hc3, h⟩ | ⟨u2, hc3, ew⟩
  · refine cc_vS (As := [.int p0, .int p1]) (rest := []) ⟨hx, hb, hml, hown, hts⟩ (k_X9_needPlace l D cI cZ ad u p0 p1 hc3) (va_cwS 2 hts (gwS mw_592 mw_593 mw_48 mw_594) rfl rfl rfl (by decide +kernel) ⟨Nat.le_of_ble_eq_true rfl, Nat.le_of_ble_eq_true rfl⟩) hK hP hD hS hA hZ rfl hl.1 rfl (Nat.le_of_ble_eq_true rfl) dX9_sign_2 ⟨Nat.zero_le _, Nat.zero_le _⟩ (fun H locs hP hD hS => ?_)
    refine lv_aload_n hx hb dX9_sign_5 rfl (lv_at hl 0 rfl) ?_
    obtain ⟨y4, hc5, h⟩ := gx_bind h
    refine cc_vV (As := []) (rest := []) ⟨hx, hb, hml, hown, hts⟩ (k_X9_setLaneSigns l D cI cZ ad u2 hc5) (cwV 0 hts (gwV mw_339 mw_341 mw_1 mw_48 mw_342) rfl rfl rfl (by decide +kernel) ⟨Nat.le_of_ble_eq_true rfl, Nat.le_of_ble_eq_true rfl⟩) hK hP hD hS hA hZ (ci := 9) (q0 := 0) rfl rfl rfl hl.1 rfl (Nat.le_of_ble_eq_true rfl) dX9_sign_6 ⟨Nat.zero_le _, Nat.zero_le _⟩ (fun H locs hP hD hS => ?_)
    refine lv_aload_n hx hb dX9_sign_9 rfl (lv_at hl 0 rfl) ?_
    refine va_get (D := D) (ci := 9) (v := .ref (ad 4)) (C := RX9) (T := TX9) (N := 10) hx hb hts iX9 hown hK hP 0 rfl rfl 4 (by decide) hf37 (fun _ h9 => h9) rfl dX9_sign_10 ?_
    refine va_get (D := D) (ci := 3) (v := .ref (ad 20)) (C := RX3) (T := TX3) (N := 3) hx hb hts iX3 hown hK hP 4 rfl rfl 2 (by decide) hf84 (fun _ h9 => h9) rfl dX9_sign_13 ?_
    refine lv_iload_n hx hb dX9_sign_16 rfl (lv_at hl 1 rfl) ?_
    refine lv_iload_n hx hb dX9_sign_17 rfl (lv_at hl 2 rfl) ?_
    obtain ⟨y6, hc7, h⟩ := gx_bind h
    refine cc_iS (As := [.int p0, .int p1]) (rest := [.ref (ad 20)]) ⟨hx, hb, hml, hown, hts⟩ (k_X9_placeOf l D cI cZ ad y4 p0 p1 hc7) (va_cwS 2 hts (gwS mw_617 mw_266 mw_48 mw_267) rfl rfl rfl (by decide +kernel) ⟨Nat.le_of_ble_eq_true rfl, Nat.le_of_ble_eq_true rfl⟩) hK hP hD hS hA hZ rfl hl.1 rfl (Nat.le_of_ble_eq_true rfl) dX9_sign_18 ⟨Nat.zero_le _, Nat.zero_le _⟩ (fun H locs hP hD hS => ?_)
    obtain ⟨b8, h⟩ := gx_in h
    refine va_iald (D := D) hx hb hK hP 20 0 rfl rfl b8 dX9_sign_21 ?_
    cases h
  · replace ew : u2 = w' := ew
    subst ew
    refine cX_vS (As := [.int p0, .int p1]) (rest := []) ⟨hx, hb, hml, hown, hts⟩ (kx_X9_needPlace l hl0 D cI cZ ad u p0 p1 hc3) (va_cwS 2 hts (gwS mw_592 mw_593 mw_48 mw_594) rfl rfl rfl (by decide +kernel) ⟨Nat.le_of_ble_eq_true rfl, Nat.le_of_ble_eq_true rfl⟩) hK hP hD hS hA hZ rfl hl.1 rfl (Nat.le_of_ble_eq_true rfl) dX9_sign_2 ⟨Nat.le_of_ble_eq_true rfl, Nat.le_of_ble_eq_true rfl⟩ (fun ce q9 H locs hP hD hS h1 h2 h3 => ?_)
    exact cX_back hAe hQ hout hlocks hK rfl hP hD hS h1 h2 h3 (Nat.le_refl _) (Nat.le_refl _)

def rX9_isLawful : Room := { frames := 5, cells := 0, slots := 0, locals := 114 }
set_option maxHeartbeats 4000000 in
set_option maxRecDepth 100000 in
theorem k_X9_isLawful (l : Launch) (D : va_G) (cI cZ : ClassId) (ad : Nat → Nat) (u : GS) {r : Int32} {w' : GS} (h : g_X9_isLawful u = some (r, w')) : MI l yX9_isLawful (wm yX9_isLawful cX9_isLawful 1 (some .boolean)) rX9_isLawful D [(cI, .int), (cZ, .boolean)] (wC cI cZ ad u) (wC cI cZ ad w') [.ref (ad 0)] r := by
  intro sz
  refine Met.ofW (cc := cX9_isLawful) (maxL := 1) (ret := (some .boolean)) (by decide) rfl ?_
  intro p e s m args below meth c s₁ B hml hv
  obtain ⟨rfl, hsz, hP, hK, hD0, hZ⟩ := hv
  have hx := B.exec
  have hb := B.bytes
  have hr := B.returns
  have hts : ∀ w ∈ Wall, w.before _ s = true := fun w hw => atoms_spec (ws := wm yX9_isLawful cX9_isLawful 1 (some .boolean)) B.pre w (List.mem_cons_of_mem _ hw)
  have hown : s.vm.findClass RX9 = some m.cls := findClass_of_methodNamed B.named
  have hlocks := B.notSynchronized
  subst hsz
  have hD := hD0.self (sz := s.heap.size)
  generalize hAe : va_A (wC cI cZ ad u) s.heap.size = A at hD hZ ⊢
  have hA : ∀ q : Nat, s.heap.size ≤ q → A q := fun q h => by rw [← hAe]; exact Or.inr h
  have hS : va_S A s.heap s.heap [] := va_S.rf
  have hf30 := hts _ mw_307
  have hf37 := hts _ mw_308
  have hl := lv_entry ([.ref (ad 0)]) (n := 1) (Nat.le_of_ble_eq_true rfl)
  rw [lg_entry_eq]
  generalize (lg_sl ([.ref (ad 0)]) ++ List.replicate (1 - (lg_sl ([.ref (ad 0)])).length) Slot.unset).toArray = ls at hl ⊢
  replace hl : lv_has ls 1 [(0, .ref (ad 0))] := hl
  refine w_gen (fun Q hQ => ?_)
  refine lv_aload_n hx hb dX9_isLawful_0 rfl (lv_at hl 0 rfl) ?_
  obtain ⟨y1, hc2, h⟩ := gx_bind h
  refine cc_vV (As := []) (rest := []) ⟨hx, hb, hml, hown, hts⟩ (k_X9_setLaneSigns l D cI cZ ad u hc2) (cwV 0 hts (gwV mw_339 mw_341 mw_1 mw_48 mw_342) rfl rfl rfl (by decide +kernel) ⟨Nat.le_of_ble_eq_true rfl, Nat.le_of_ble_eq_true rfl⟩) hK hP hD hS hA hZ (ci := 9) (q0 := 0) rfl rfl rfl hl.1 rfl (Nat.le_of_ble_eq_true rfl) dX9_isLawful_1 ⟨Nat.zero_le _, Nat.zero_le _⟩ (fun H locs hP hD hS => ?_)
  refine lv_aload_n hx hb dX9_isLawful_4 rfl (lv_at hl 0 rfl) ?_
  refine va_get (D := D) (ci := 9) (v := .ref (ad 3)) (C := RX9) (T := TX9) (N := 10) hx hb hts iX9 hown hK hP 0 rfl rfl 3 (by decide) hf30 (fun _ h9 => h9) rfl dX9_isLawful_5 ?_
  obtain ⟨y3, hc4, h⟩ := gx_bind h
  refine cc_iV (As := []) (rest := []) ⟨hx, hb, hml, hown, hts⟩ (k_X7_areLawful l D cI cZ ad y1 hc4) (cwV 0 hts (gwV mw_343 mw_344 mw_345 mw_51 mw_346) rfl rfl rfl (by decide +kernel) ⟨Nat.le_of_ble_eq_true rfl, Nat.le_of_ble_eq_true rfl⟩) hK hP hD hS hA hZ (ci := 7) (q0 := 3) rfl rfl rfl hl.1 rfl (Nat.le_of_ble_eq_true rfl) dX9_isLawful_8 ⟨Nat.zero_le _, Nat.zero_le _⟩ (fun H locs hP hD hS => ?_)
  refine lv_if_eq (tgt := 28) hx hb dX9_isLawful_11 (by decide) (fun c5 => ?_) (fun c5 => ?_)
  · replace h := gx_t c5 h
    refine lv_iconst (v := 0) hx hb dX9_isLawful_28 (by decide) ?_
    cases h
    exact cc_ret hx hb hr rfl hQ hK hP hD hS rfl dX9_isLawful_29 hlocks
  · replace h := gx_f c5 h
    refine lv_aload_n hx hb dX9_isLawful_14 rfl (lv_at hl 0 rfl) ?_
    refine va_get (D := D) (ci := 9) (v := .ref (ad 4)) (C := RX9) (T := TX9) (N := 10) hx hb hts iX9 hown hK hP 0 rfl rfl 4 (by decide) hf37 (fun _ h9 => h9) rfl dX9_isLawful_15 ?_
    obtain ⟨y6, hc7, h⟩ := gx_bind h
    refine cc_iV (As := []) (rest := []) ⟨hx, hb, hml, hown, hts⟩ (k_X3_areLawful l D cI cZ ad y1 hc7) (cwV 0 hts (gwV mw_347 mw_348 mw_349 mw_52 mw_350) rfl rfl rfl (by decide +kernel) ⟨Nat.le_of_ble_eq_true rfl, Nat.le_of_ble_eq_true rfl⟩) hK hP hD hS hA hZ (ci := 3) (q0 := 4) rfl rfl rfl hl.1 rfl (Nat.le_of_ble_eq_true rfl) dX9_isLawful_18 ⟨Nat.zero_le _, Nat.zero_le _⟩ (fun H locs hP hD hS => ?_)
    refine lv_if_eq (tgt := 28) hx hb dX9_isLawful_21 (by decide) (fun c8 => ?_) (fun c8 => ?_)
    · replace h := gx_t c8 h
      refine lv_iconst (v := 0) hx hb dX9_isLawful_28 (by decide) ?_
      cases h
      exact cc_ret hx hb hr rfl hQ hK hP hD hS rfl dX9_isLawful_29 hlocks
    · replace h := gx_f c8 h
      refine lv_iconst (v := 1) hx hb dX9_isLawful_24 (by decide) ?_
      refine lv_goto (tgt := 29) hx hb dX9_isLawful_25 (by decide) ?_
      cases h
      exact cc_ret hx hb hr rfl hQ hK hP hD hS rfl dX9_isLawful_29 hlocks

def rX9_look : Room := { frames := 3, cells := 0, slots := 0, locals := 64 }
set_option maxHeartbeats 4000000 in
set_option maxRecDepth 100000 in
theorem k_X9_look (l : Launch) (D : va_G) (cI cZ : ClassId) (ad : Nat → Nat) (u : GS) (p0 : Int32) {r : Int32} {w' : GS} (h : g_X9_look u p0 = some (.inl r, w')) : MI l yX9_look (wm yX9_look cX9_look 3 (some .boolean)) rX9_look D [(cI, .int), (cZ, .boolean)] (wC cI cZ ad u) (wC cI cZ ad w') [.ref (ad 0), .int p0] r := by
  intro sz
  refine Met.ofW (cc := cX9_look) (maxL := 3) (ret := (some .boolean)) (by decide) rfl ?_
  intro p e s m args below meth c s₁ B hml hv
  obtain ⟨rfl, hsz, hP, hK, hD0, hZ⟩ := hv
  have hx := B.exec
  have hb := B.bytes
  have hr := B.returns
  have hts : ∀ w ∈ Wall, w.before _ s = true := fun w hw => atoms_spec (ws := wm yX9_look cX9_look 3 (some .boolean)) B.pre w (List.mem_cons_of_mem _ hw)
  have hown : s.vm.findClass RX9 = some m.cls := findClass_of_methodNamed B.named
  have hlocks := B.notSynchronized
  subst hsz
  have hD := hD0.self (sz := s.heap.size)
  generalize hAe : va_A (wC cI cZ ad u) s.heap.size = A at hD hZ ⊢
  have hA : ∀ q : Nat, s.heap.size ≤ q → A q := fun q h => by rw [← hAe]; exact Or.inr h
  have hS : va_S A s.heap s.heap [] := va_S.rf
  have hf16 := hts _ mw_305
  have hf44 := hts _ mw_309
  have hf179 := hts _ mw_174
  have hf7 := hts _ mw_304
  have hl := lv_entry ([.ref (ad 0), .int p0]) (n := 3) (Nat.le_of_ble_eq_true rfl)
  rw [lg_entry_eq]
  generalize (lg_sl ([.ref (ad 0), .int p0]) ++ List.replicate (3 - (lg_sl ([.ref (ad 0), .int p0])).length) Slot.unset).toArray = ls at hl ⊢
  replace hl : lv_has ls 3 [(0, .ref (ad 0)), (1, .int p0)] := hl
  refine w_gen (fun Q hQ => ?_)
  refine lv_iload_n hx hb dX9_look_0 rfl (lv_at hl 1 rfl) ?_
  obtain ⟨y1, u2, hc3, h⟩ := gx_xr h
  refine cc_vS (As := [.int p0]) (rest := []) ⟨hx, hb, hml, hown, hts⟩ (k_X9_needSection l D cI cZ ad u p0 hc3) (va_cwS 1 hts (gwS mw_595 mw_596 mw_48 mw_597) rfl rfl rfl (by decide +kernel) ⟨Nat.le_of_ble_eq_true rfl, Nat.le_of_ble_eq_true rfl⟩) hK hP hD hS hA hZ rfl hl.1 rfl (Nat.le_of_ble_eq_true rfl) dX9_look_1 ⟨Nat.zero_le _, Nat.zero_le _⟩ (fun H locs hP hD hS => ?_)
  refine lv_aload_n hx hb dX9_look_4 rfl (lv_at hl 0 rfl) ?_
  refine va_get (D := D) (ci := 9) (v := .ref (ad 1)) (C := RX9) (T := TX9) (N := 10) hx hb hts iX9 hown hK hP 0 rfl rfl 1 (by decide) hf16 (fun _ h9 => h9) rfl dX9_look_5 ?_
  refine lv_iload_n hx hb dX9_look_8 rfl (lv_at hl 1 rfl) ?_
  refine lv_iconst (v := 0) hx hb dX9_look_9 (by decide) ?_
  obtain ⟨y4, hc5, h⟩ := gx_bind h
  refine cc_iS (As := [.int p0, .int (0 : Int32)]) (rest := [.ref (ad 1)]) ⟨hx, hb, hml, hown, hts⟩ (k_X9_placeOf l D cI cZ ad u2 p0 (0 : Int32) hc5) (va_cwS 2 hts (gwS mw_617 mw_266 mw_48 mw_267) rfl rfl rfl (by decide +kernel) ⟨Nat.le_of_ble_eq_true rfl, Nat.le_of_ble_eq_true rfl⟩) hK hP hD hS hA hZ rfl hl.1 rfl (Nat.le_of_ble_eq_true rfl) dX9_look_10 ⟨Nat.zero_le _, Nat.zero_le _⟩ (fun H locs hP hD hS => ?_)
  obtain ⟨y6, hc7, h⟩ := gx_bind h
  refine cc_iV (As := [.int y4]) (rest := []) ⟨hx, hb, hml, hown, hts⟩ (k_X8_isClear l D cI cZ ad u2 y4 hc7) (cwV 1 hts (gwV mw_683 mw_684 mw_685 mw_49 mw_686) rfl rfl rfl (by decide +kernel) ⟨Nat.le_of_ble_eq_true rfl, Nat.le_of_ble_eq_true rfl⟩) hK hP hD hS hA hZ (ci := 8) (q0 := 1) rfl rfl rfl hl.1 rfl (Nat.le_of_ble_eq_true rfl) dX9_look_13 ⟨Nat.zero_le _, Nat.zero_le _⟩ (fun H locs hP hD hS => ?_)
  refine lv_istore_n (lv' := [(2, .int y6), (0, .ref (ad 0)), (1, .int p0)]) hx hb dX9_look_16 rfl hl (by decide) rfl (fun ls hl => ?_)
  refine lv_aload_n hx hb dX9_look_17 rfl (lv_at hl 1 rfl) ?_
  refine va_get (D := D) (ci := 9) (v := .ref (ad 5)) (C := RX9) (T := TX9) (N := 10) hx hb hts iX9 hown hK hP 0 rfl rfl 5 (by decide) hf44 (fun _ h9 => h9) rfl dX9_look_18 ?_
  refine va_get (D := D) (ci := 6) (v := .ref (ad 22)) (C := RX6) (T := TX6) (N := 2) hx hb hts iX6 hown hK hP 5 rfl rfl 1 (by decide) hf179 (fun _ h9 => h9) rfl dX9_look_21 ?_
  refine lv_iload_n hx hb dX9_look_24 rfl (lv_at hl 2 rfl) ?_
  refine lv_iload_n hx hb dX9_look_25 rfl (lv_at hl 0 rfl) ?_
  obtain ⟨j39_8, ej39_8, h⟩ := gx_let h
  have hj39_8 : ∀ (z0_39 : Int32) (H : Heap) (locs : List Loc) (ls : Array Slot), j39_8 z0_39 = some (.inl r, w') → va_P D vwCl (wC cI cZ ad u2) H → va_D A (wC cI cZ ad u2) → va_S A s.heap H locs → lv_has ls 3 [(2, .int y6)] → W p l e rX9_look s m ([.ref (ad 0), .int p0] : List Value).toArray below meth c H locs 0 0 Q (F0 m 39 ls [.int z0_39, .int p0, .ref (ad 22)]) := by
    intro z0_39 H locs ls h hP hD hS hl
    subst ej39_8
    obtain ⟨b9, h⟩ := gx_in h
    refine va_iast (D := D) hx hb hK hP hD hS 22 0 rfl rfl b9 dX9_look_39 (fun H locs hP hD hS => ?_)
    obtain ⟨u10, eu10, h⟩ := gx_let h
    replace hP : va_P D vwCl (wC cI cZ ad u10) H := by rw [← eu10]; exact hP
    replace hD : va_D A (wC cI cZ ad u10) := by rw [← eu10]; exact hD
    refine lv_iload_n hx hb dX9_look_40 rfl (lv_at hl 0 rfl) ?_
    obtain ⟨bo, h⟩ := gx_bo h
    cases h
    exact cc_ret hx hb hr bo hQ hK hP hD hS rfl dX9_look_41 hlocks
  refine lv_if_eq (tgt := 36) hx hb dX9_look_26 (by decide) (fun c11 => ?_) (fun c11 => ?_)
  · replace h := gx_t c11 h
    refine lv_sipush (v := (-1000)) hx hb dX9_look_36 (by decide) ?_
    exact hj39_8 (-1000 : Int32) _ _ _ h hP hD hS (lv_sub hl [0] rfl)
  · replace h := gx_f c11 h
    refine lv_aload_n hx hb dX9_look_29 rfl (lv_at hl 1 rfl) ?_
    refine va_get (D := D) (ci := 9) (v := .int (c_minute u2)) (C := RX9) (T := TX9) (N := 10) hx hb hts iX9 hown hK hP 0 rfl rfl 0 (by decide) hf7 (fun _ h9 => h9) rfl dX9_look_30 ?_
    refine lv_goto (tgt := 39) hx hb dX9_look_33 (by decide) ?_
    exact hj39_8 (c_minute u2) _ _ _ h hP hD hS (lv_sub hl [0] rfl)

def rx_X9_look : Room := { frames := 8, cells := 1, slots := 6, locals := 130 }
set_option maxHeartbeats 4000000 in
set_option maxRecDepth 100000 in
theorem kx_X9_look (l : Launch) (hl0 : l.stackTraces = false) (D : va_G) (cI cZ : ClassId) (ad : Nat → Nat) (u : GS) (p0 : Int32) {E : String} {w' : GS} (h : g_X9_look u p0 = some (.inr E, w')) : XI l yX9_look (wm yX9_look cX9_look 3 (some .boolean)) rx_X9_look D [(cI, .int), (cZ, .boolean)] (wC cI cZ ad u) (wC cI cZ ad w') [.ref (ad 0), .int p0] E := by
  intro sz
  refine vx_ofW (cc := cX9_look) (maxL := 3) (ret := (some .boolean)) (by decide) rfl ?_
  intro p e s m args below meth c s₁ B hml hout hv
  obtain ⟨rfl, hsz, hP, hK, hD0, hZ⟩ := hv
  have hx := B.exec
  have hb := B.bytes
  have hts : ∀ w ∈ Wall, w.before _ s = true := fun w hw => atoms_spec (ws := wm yX9_look cX9_look 3 (some .boolean)) B.pre w (List.mem_cons_of_mem _ hw)
  have hown : s.vm.findClass RX9 = some m.cls := findClass_of_methodNamed B.named
  have hlocks := B.notSynchronized
  subst hsz
  have hD := hD0.self (sz := s.heap.size)
  generalize hAe : va_A (wC cI cZ ad u) s.heap.size = A at hD hZ
  have hA : ∀ q : Nat, s.heap.size ≤ q → A q := fun q h => by rw [← hAe]; exact Or.inr h
  have hS : va_S A s.heap s.heap [] := va_S.rf
  have hf16 := hts _ mw_305
  have hf44 := hts _ mw_309
  have hf179 := hts _ mw_174
  have hf7 := hts _ mw_304
  have hl := lv_entry ([.ref (ad 0), .int p0]) (n := 3) (Nat.le_of_ble_eq_true rfl)
  rw [lg_entry_eq]
  generalize (lg_sl ([.ref (ad 0), .int p0]) ++ List.replicate (3 - (lg_sl ([.ref (ad 0), .int p0])).length) Slot.unset).toArray = ls at hl ⊢
  replace hl : lv_has ls 3 [(0, .ref (ad 0)), (1, .int p0)] := hl
  refine w_gen (fun Q hQ => ?_)
  refine lv_iload_n hx hb dX9_look_0 rfl (lv_at hl 1 rfl) ?_
  rcases gx_xx h with ⟨y1, u2, hc3, h⟩ | ⟨u2, hc3, ew⟩
  · refine cc_vS (As := [.int p0]) (rest := []) ⟨hx, hb, hml, hown, hts⟩ (k_X9_needSection l D cI cZ ad u p0 hc3) (va_cwS 1 hts (gwS mw_595 mw_596 mw_48 mw_597) rfl rfl rfl (by decide +kernel) ⟨Nat.le_of_ble_eq_true rfl, Nat.le_of_ble_eq_true rfl⟩) hK hP hD hS hA hZ rfl hl.1 rfl (Nat.le_of_ble_eq_true rfl) dX9_look_1 ⟨Nat.zero_le _, Nat.zero_le _⟩ (fun H locs hP hD hS => ?_)
    refine lv_aload_n hx hb dX9_look_4 rfl (lv_at hl 0 rfl) ?_
    refine va_get (D := D) (ci := 9) (v := .ref (ad 1)) (C := RX9) (T := TX9) (N := 10) hx hb hts iX9 hown hK hP 0 rfl rfl 1 (by decide) hf16 (fun _ h9 => h9) rfl dX9_look_5 ?_
    refine lv_iload_n hx hb dX9_look_8 rfl (lv_at hl 1 rfl) ?_
    refine lv_iconst (v := 0) hx hb dX9_look_9 (by decide) ?_
    obtain ⟨y4, hc5, h⟩ := gx_bind h
    refine cc_iS (As := [.int p0, .int (0 : Int32)]) (rest := [.ref (ad 1)]) ⟨hx, hb, hml, hown, hts⟩ (k_X9_placeOf l D cI cZ ad u2 p0 (0 : Int32) hc5) (va_cwS 2 hts (gwS mw_617 mw_266 mw_48 mw_267) rfl rfl rfl (by decide +kernel) ⟨Nat.le_of_ble_eq_true rfl, Nat.le_of_ble_eq_true rfl⟩) hK hP hD hS hA hZ rfl hl.1 rfl (Nat.le_of_ble_eq_true rfl) dX9_look_10 ⟨Nat.zero_le _, Nat.zero_le _⟩ (fun H locs hP hD hS => ?_)
    obtain ⟨y6, hc7, h⟩ := gx_bind h
    refine cc_iV (As := [.int y4]) (rest := []) ⟨hx, hb, hml, hown, hts⟩ (k_X8_isClear l D cI cZ ad u2 y4 hc7) (cwV 1 hts (gwV mw_683 mw_684 mw_685 mw_49 mw_686) rfl rfl rfl (by decide +kernel) ⟨Nat.le_of_ble_eq_true rfl, Nat.le_of_ble_eq_true rfl⟩) hK hP hD hS hA hZ (ci := 8) (q0 := 1) rfl rfl rfl hl.1 rfl (Nat.le_of_ble_eq_true rfl) dX9_look_13 ⟨Nat.zero_le _, Nat.zero_le _⟩ (fun H locs hP hD hS => ?_)
    refine lv_istore_n (lv' := [(2, .int y6), (0, .ref (ad 0)), (1, .int p0)]) hx hb dX9_look_16 rfl hl (by decide) rfl (fun ls hl => ?_)
    refine lv_aload_n hx hb dX9_look_17 rfl (lv_at hl 1 rfl) ?_
    refine va_get (D := D) (ci := 9) (v := .ref (ad 5)) (C := RX9) (T := TX9) (N := 10) hx hb hts iX9 hown hK hP 0 rfl rfl 5 (by decide) hf44 (fun _ h9 => h9) rfl dX9_look_18 ?_
    refine va_get (D := D) (ci := 6) (v := .ref (ad 22)) (C := RX6) (T := TX6) (N := 2) hx hb hts iX6 hown hK hP 5 rfl rfl 1 (by decide) hf179 (fun _ h9 => h9) rfl dX9_look_21 ?_
    refine lv_iload_n hx hb dX9_look_24 rfl (lv_at hl 2 rfl) ?_
    refine lv_iload_n hx hb dX9_look_25 rfl (lv_at hl 0 rfl) ?_
    obtain ⟨j39_8, ej39_8, h⟩ := gx_let h
    have hj39_8 : ∀ (z0_39 : Int32) (H : Heap) (locs : List Loc) (ls : Array Slot), j39_8 z0_39 = some (.inr E, w') → va_P D vwCl (wC cI cZ ad u2) H → va_D A (wC cI cZ ad u2) → va_S A s.heap H locs → lv_has ls 3 [(2, .int y6)] → W p l e rx_X9_look s m ([.ref (ad 0), .int p0] : List Value).toArray below meth c H locs 0 0 Q (F0 m 39 ls [.int z0_39, .int p0, .ref (ad 22)]) := by
      intro z0_39 H locs ls h hP hD hS hl
      subst ej39_8
      obtain ⟨b9, h⟩ := gx_in h
      refine va_iast (D := D) hx hb hK hP hD hS 22 0 rfl rfl b9 dX9_look_39 (fun H locs hP hD hS => ?_)
      obtain ⟨u10, eu10, h⟩ := gx_let h
      replace hP : va_P D vwCl (wC cI cZ ad u10) H := by rw [← eu10]; exact hP
      replace hD : va_D A (wC cI cZ ad u10) := by rw [← eu10]; exact hD
      refine lv_iload_n hx hb dX9_look_40 rfl (lv_at hl 0 rfl) ?_
      obtain ⟨bo, h⟩ := gx_bo h
      cases h
    refine lv_if_eq (tgt := 36) hx hb dX9_look_26 (by decide) (fun c11 => ?_) (fun c11 => ?_)
    · replace h := gx_t c11 h
      refine lv_sipush (v := (-1000)) hx hb dX9_look_36 (by decide) ?_
      exact hj39_8 (-1000 : Int32) _ _ _ h hP hD hS (lv_sub hl [0] rfl)
    · replace h := gx_f c11 h
      refine lv_aload_n hx hb dX9_look_29 rfl (lv_at hl 1 rfl) ?_
      refine va_get (D := D) (ci := 9) (v := .int (c_minute u2)) (C := RX9) (T := TX9) (N := 10) hx hb hts iX9 hown hK hP 0 rfl rfl 0 (by decide) hf7 (fun _ h9 => h9) rfl dX9_look_30 ?_
      refine lv_goto (tgt := 39) hx hb dX9_look_33 (by decide) ?_
      exact hj39_8 (c_minute u2) _ _ _ h hP hD hS (lv_sub hl [0] rfl)
  · replace ew : u2 = w' := ew
    subst ew
    refine cX_vS (As := [.int p0]) (rest := []) ⟨hx, hb, hml, hown, hts⟩ (kx_X9_needSection l hl0 D cI cZ ad u p0 hc3) (va_cwS 1 hts (gwS mw_595 mw_596 mw_48 mw_597) rfl rfl rfl (by decide +kernel) ⟨Nat.le_of_ble_eq_true rfl, Nat.le_of_ble_eq_true rfl⟩) hK hP hD hS hA hZ rfl hl.1 rfl (Nat.le_of_ble_eq_true rfl) dX9_look_1 ⟨Nat.le_of_ble_eq_true rfl, Nat.le_of_ble_eq_true rfl⟩ (fun ce q9 H locs hP hD hS h1 h2 h3 => ?_)
    exact cX_back hAe hQ hout hlocks hK rfl hP hD hS h1 h2 h3 (Nat.le_refl _) (Nat.le_refl _)

def rX9_openShoulder : Room := { frames := 2, cells := 0, slots := 0, locals := 46 }
set_option maxHeartbeats 4000000 in
set_option maxRecDepth 100000 in
theorem k_X9_openShoulder (l : Launch) (D : va_G) (cI cZ : ClassId) (ad : Nat → Nat) (u : GS) (p0 : Int32) (p1 : Int32) {r : Int32} {w' : GS} (h : g_X9_openShoulder u p0 p1 = some (.inl r, w')) : MI l yX9_openShoulder (wm yX9_openShoulder cX9_openShoulder 3 (some .int)) rX9_openShoulder D [(cI, .int), (cZ, .boolean)] (wC cI cZ ad u) (wC cI cZ ad w') [.ref (ad 0), .int p0, .int p1] r := by
  intro sz
  refine Met.ofW (cc := cX9_openShoulder) (maxL := 3) (ret := (some .int)) (by decide) rfl ?_
  intro p e s m args below meth c s₁ B hml hv
  obtain ⟨rfl, hsz, hP, hK, hD0, hZ⟩ := hv
  have hx := B.exec
  have hb := B.bytes
  have hr := B.returns
  have hts : ∀ w ∈ Wall, w.before _ s = true := fun w hw => atoms_spec (ws := wm yX9_openShoulder cX9_openShoulder 3 (some .int)) B.pre w (List.mem_cons_of_mem _ hw)
  have hown : s.vm.findClass RX9 = some m.cls := findClass_of_methodNamed B.named
  have hlocks := B.notSynchronized
  subst hsz
  have hD := hD0.self (sz := s.heap.size)
  generalize hAe : va_A (wC cI cZ ad u) s.heap.size = A at hD hZ ⊢
  have hA : ∀ q : Nat, s.heap.size ≤ q → A q := fun q h => by rw [← hAe]; exact Or.inr h
  have hS : va_S A s.heap s.heap [] := va_S.rf
  have hf44 := hts _ mw_309
  have hf7 := hts _ mw_304
  have hl := lv_entry ([.ref (ad 0), .int p0, .int p1]) (n := 3) (Nat.le_of_ble_eq_true rfl)
  rw [lg_entry_eq]
  generalize (lg_sl ([.ref (ad 0), .int p0, .int p1]) ++ List.replicate (3 - (lg_sl ([.ref (ad 0), .int p0, .int p1])).length) Slot.unset).toArray = ls at hl ⊢
  replace hl : lv_has ls 3 [(0, .ref (ad 0)), (1, .int p0), (2, .int p1)] := hl
  refine w_gen (fun Q hQ => ?_)
  refine lv_iload_n hx hb dX9_openShoulder_0 rfl (lv_at hl 1 rfl) ?_
  obtain ⟨y1, u2, hc3, h⟩ := gx_xr h
  refine cc_vS (As := [.int p0]) (rest := []) ⟨hx, hb, hml, hown, hts⟩ (k_X9_needSection l D cI cZ ad u p0 hc3) (va_cwS 1 hts (gwS mw_595 mw_596 mw_48 mw_597) rfl rfl rfl (by decide +kernel) ⟨Nat.le_of_ble_eq_true rfl, Nat.le_of_ble_eq_true rfl⟩) hK hP hD hS hA hZ rfl hl.1 rfl (Nat.le_of_ble_eq_true rfl) dX9_openShoulder_1 ⟨Nat.zero_le _, Nat.zero_le _⟩ (fun H locs hP hD hS => ?_)
  refine lv_iload_n hx hb dX9_openShoulder_4 rfl (lv_at hl 2 rfl) ?_
  obtain ⟨y4, u5, hc6, h⟩ := gx_xr h
  refine cc_vS (As := [.int p1]) (rest := []) ⟨hx, hb, hml, hown, hts⟩ (k_X9_needSection l D cI cZ ad u2 p1 hc6) (va_cwS 1 hts (gwS mw_595 mw_596 mw_48 mw_597) rfl rfl rfl (by decide +kernel) ⟨Nat.le_of_ble_eq_true rfl, Nat.le_of_ble_eq_true rfl⟩) hK hP hD hS hA hZ rfl hl.1 rfl (Nat.le_of_ble_eq_true rfl) dX9_openShoulder_5 ⟨Nat.zero_le _, Nat.zero_le _⟩ (fun H locs hP hD hS => ?_)
  refine lv_iload_n hx hb dX9_openShoulder_8 rfl (lv_at hl 1 rfl) ?_
  refine lv_iload_n hx hb dX9_openShoulder_9 rfl (lv_at hl 2 rfl) ?_
  obtain ⟨j18_7, ej18_7, h⟩ := gx_let h
  have hj18_7 : ∀ (z0_18 : Int32) (H : Heap) (locs : List Loc) (ls : Array Slot), j18_7 z0_18 = some (.inl r, w') → va_P D vwCl (wC cI cZ ad u5) H → va_D A (wC cI cZ ad u5) → va_S A s.heap H locs → lv_has ls 3 [(0, .ref (ad 0)), (1, .int p0), (2, .int p1)] → W p l e rX9_openShoulder s m ([.ref (ad 0), .int p0, .int p1] : List Value).toArray below meth c H locs 0 0 Q (F0 m 18 ls [.int z0_18]) := by
    intro z0_18 H locs ls h hP hD hS hl
    subst ej18_7
    obtain ⟨y8, u9, hc10, h⟩ := gx_xr h
    refine cc_vS (As := [.int z0_18]) (rest := []) ⟨hx, hb, hml, hown, hts⟩ (k_X9_needArgument l D cI cZ ad u5 z0_18 hc10) (va_cwS 1 hts (gwS mw_392 mw_393 mw_48 mw_394) rfl rfl rfl (by decide +kernel) ⟨Nat.le_of_ble_eq_true rfl, Nat.le_of_ble_eq_true rfl⟩) hK hP hD hS hA hZ rfl hl.1 rfl (Nat.le_of_ble_eq_true rfl) dX9_openShoulder_18 ⟨Nat.zero_le _, Nat.zero_le _⟩ (fun H locs hP hD hS => ?_)
    refine lv_aload_n hx hb dX9_openShoulder_21 rfl (lv_at hl 0 rfl) ?_
    refine va_get (D := D) (ci := 9) (v := .ref (ad 5)) (C := RX9) (T := TX9) (N := 10) hx hb hts iX9 hown hK hP 0 rfl rfl 5 (by decide) hf44 (fun _ h9 => h9) rfl dX9_openShoulder_22 ?_
    refine lv_iload_n hx hb dX9_openShoulder_25 rfl (lv_at hl 1 rfl) ?_
    refine lv_iload_n hx hb dX9_openShoulder_26 rfl (lv_at hl 2 rfl) ?_
    refine lv_aload_n hx hb dX9_openShoulder_27 rfl (lv_at hl 0 rfl) ?_
    refine va_get (D := D) (ci := 9) (v := .int (c_minute u9)) (C := RX9) (T := TX9) (N := 10) hx hb hts iX9 hown hK hP 0 rfl rfl 0 (by decide) hf7 (fun _ h9 => h9) rfl dX9_openShoulder_28 ?_
    obtain ⟨y11, hc12, h⟩ := gx_bind h
    refine cc_iV (As := [.int p0, .int p1, .int (c_minute u9)]) (rest := []) ⟨hx, hb, hml, hown, hts⟩ (k_X6_canOpen l D cI cZ ad u9 p0 p1 (c_minute u9) hc12) (cwV 3 hts (gwV mw_694 mw_695 mw_696 mw_53 mw_697) rfl rfl rfl (by decide +kernel) ⟨Nat.le_of_ble_eq_true rfl, Nat.le_of_ble_eq_true rfl⟩) hK hP hD hS hA hZ (ci := 6) (q0 := 5) rfl rfl rfl hl.1 rfl (Nat.le_of_ble_eq_true rfl) dX9_openShoulder_31 ⟨Nat.zero_le _, Nat.zero_le _⟩ (fun H locs hP hD hS => ?_)
    obtain ⟨y13, u14, hc15, h⟩ := gx_xr h
    refine cc_vS (As := [.int y11]) (rest := []) ⟨hx, hb, hml, hown, hts⟩ (k_X9_needState l D cI cZ ad u9 y11 hc15) (va_cwS 1 hts (gwS mw_471 mw_472 mw_48 mw_473) rfl rfl rfl (by decide +kernel) ⟨Nat.le_of_ble_eq_true rfl, Nat.le_of_ble_eq_true rfl⟩) hK hP hD hS hA hZ rfl hl.1 rfl (Nat.le_of_ble_eq_true rfl) dX9_openShoulder_34 ⟨Nat.zero_le _, Nat.zero_le _⟩ (fun H locs hP hD hS => ?_)
    refine lv_aload_n hx hb dX9_openShoulder_37 rfl (lv_at hl 0 rfl) ?_
    refine va_get (D := D) (ci := 9) (v := .ref (ad 5)) (C := RX9) (T := TX9) (N := 10) hx hb hts iX9 hown hK hP 0 rfl rfl 5 (by decide) hf44 (fun _ h9 => h9) rfl dX9_openShoulder_38 ?_
    refine lv_iload_n hx hb dX9_openShoulder_41 rfl (lv_at hl 1 rfl) ?_
    refine lv_iload_n hx hb dX9_openShoulder_42 rfl (lv_at hl 2 rfl) ?_
    obtain ⟨y16, hc17, h⟩ := gx_bind h
    refine cc_iV (As := [.int p0, .int p1]) (rest := []) ⟨hx, hb, hml, hown, hts⟩ (k_X6_openAll l D cI cZ ad u14 p0 p1 hc17) (cwV 2 hts (gwV mw_699 mw_700 mw_701 mw_53 mw_702) rfl rfl rfl (by decide +kernel) ⟨Nat.le_of_ble_eq_true rfl, Nat.le_of_ble_eq_true rfl⟩) hK hP hD hS hA hZ (ci := 6) (q0 := 5) rfl rfl rfl hl.1 rfl (Nat.le_of_ble_eq_true rfl) dX9_openShoulder_43 ⟨Nat.zero_le _, Nat.zero_le _⟩ (fun H locs hP hD hS => ?_)
    cases h
    exact cc_ret hx hb hr rfl hQ hK hP hD hS rfl dX9_openShoulder_46 hlocks
  refine lv_icmp_gt (tgt := 17) hx hb dX9_openShoulder_10 (by decide) (fun c18 => ?_) (fun c18 => ?_)
  · replace h := gx_t c18 h
    refine lv_iconst (v := 0) hx hb dX9_openShoulder_17 (by decide) ?_
    exact hj18_7 (0 : Int32) _ _ _ h hP hD hS (lv_sub hl [0, 1, 2] rfl)
  · replace h := gx_f c18 h
    refine lv_iconst (v := 1) hx hb dX9_openShoulder_13 (by decide) ?_
    refine lv_goto (tgt := 18) hx hb dX9_openShoulder_14 (by decide) ?_
    exact hj18_7 (1 : Int32) _ _ _ h hP hD hS (lv_sub hl [0, 1, 2] rfl)

def rx_X9_openShoulder : Room := { frames := 8, cells := 1, slots := 6, locals := 130 }
set_option maxHeartbeats 4000000 in
set_option maxRecDepth 100000 in
theorem kx_X9_openShoulder (l : Launch) (hl0 : l.stackTraces = false) (D : va_G) (cI cZ : ClassId) (ad : Nat → Nat) (u : GS) (p0 : Int32) (p1 : Int32) {E : String} {w' : GS} (h : g_X9_openShoulder u p0 p1 = some (.inr E, w')) : XI l yX9_openShoulder (wm yX9_openShoulder cX9_openShoulder 3 (some .int)) rx_X9_openShoulder D [(cI, .int), (cZ, .boolean)] (wC cI cZ ad u) (wC cI cZ ad w') [.ref (ad 0), .int p0, .int p1] E := by
  intro sz
  refine vx_ofW (cc := cX9_openShoulder) (maxL := 3) (ret := (some .int)) (by decide) rfl ?_
  intro p e s m args below meth c s₁ B hml hout hv
  obtain ⟨rfl, hsz, hP, hK, hD0, hZ⟩ := hv
  have hx := B.exec
  have hb := B.bytes
  have hts : ∀ w ∈ Wall, w.before _ s = true := fun w hw => atoms_spec (ws := wm yX9_openShoulder cX9_openShoulder 3 (some .int)) B.pre w (List.mem_cons_of_mem _ hw)
  have hown : s.vm.findClass RX9 = some m.cls := findClass_of_methodNamed B.named
  have hlocks := B.notSynchronized
  subst hsz
  have hD := hD0.self (sz := s.heap.size)
  generalize hAe : va_A (wC cI cZ ad u) s.heap.size = A at hD hZ
  have hA : ∀ q : Nat, s.heap.size ≤ q → A q := fun q h => by rw [← hAe]; exact Or.inr h
  have hS : va_S A s.heap s.heap [] := va_S.rf
  have hf44 := hts _ mw_309
  have hf7 := hts _ mw_304
  have hl := lv_entry ([.ref (ad 0), .int p0, .int p1]) (n := 3) (Nat.le_of_ble_eq_true rfl)
  rw [lg_entry_eq]
  generalize (lg_sl ([.ref (ad 0), .int p0, .int p1]) ++ List.replicate (3 - (lg_sl ([.ref (ad 0), .int p0, .int p1])).length) Slot.unset).toArray = ls at hl ⊢
  replace hl : lv_has ls 3 [(0, .ref (ad 0)), (1, .int p0), (2, .int p1)] := hl
  refine w_gen (fun Q hQ => ?_)
  refine lv_iload_n hx hb dX9_openShoulder_0 rfl (lv_at hl 1 rfl) ?_
  rcases gx_xx h with ⟨y1, u2, hc3, h⟩ | ⟨u2, hc3, ew⟩
  · refine cc_vS (As := [.int p0]) (rest := []) ⟨hx, hb, hml, hown, hts⟩ (k_X9_needSection l D cI cZ ad u p0 hc3) (va_cwS 1 hts (gwS mw_595 mw_596 mw_48 mw_597) rfl rfl rfl (by decide +kernel) ⟨Nat.le_of_ble_eq_true rfl, Nat.le_of_ble_eq_true rfl⟩) hK hP hD hS hA hZ rfl hl.1 rfl (Nat.le_of_ble_eq_true rfl) dX9_openShoulder_1 ⟨Nat.zero_le _, Nat.zero_le _⟩ (fun H locs hP hD hS => ?_)
    refine lv_iload_n hx hb dX9_openShoulder_4 rfl (lv_at hl 2 rfl) ?_
    rcases gx_xx h with ⟨y4, u5, hc6, h⟩ | ⟨u5, hc6, ew⟩
    · refine cc_vS (As := [.int p1]) (rest := []) ⟨hx, hb, hml, hown, hts⟩ (k_X9_needSection l D cI cZ ad u2 p1 hc6) (va_cwS 1 hts (gwS mw_595 mw_596 mw_48 mw_597) rfl rfl rfl (by decide +kernel) ⟨Nat.le_of_ble_eq_true rfl, Nat.le_of_ble_eq_true rfl⟩) hK hP hD hS hA hZ rfl hl.1 rfl (Nat.le_of_ble_eq_true rfl) dX9_openShoulder_5 ⟨Nat.zero_le _, Nat.zero_le _⟩ (fun H locs hP hD hS => ?_)
      refine lv_iload_n hx hb dX9_openShoulder_8 rfl (lv_at hl 1 rfl) ?_
      refine lv_iload_n hx hb dX9_openShoulder_9 rfl (lv_at hl 2 rfl) ?_
      obtain ⟨j18_7, ej18_7, h⟩ := gx_let h
      have hj18_7 : ∀ (z0_18 : Int32) (H : Heap) (locs : List Loc) (ls : Array Slot), j18_7 z0_18 = some (.inr E, w') → va_P D vwCl (wC cI cZ ad u5) H → va_D A (wC cI cZ ad u5) → va_S A s.heap H locs → lv_has ls 3 [(0, .ref (ad 0)), (1, .int p0), (2, .int p1)] → W p l e rx_X9_openShoulder s m ([.ref (ad 0), .int p0, .int p1] : List Value).toArray below meth c H locs 0 0 Q (F0 m 18 ls [.int z0_18]) := by
        intro z0_18 H locs ls h hP hD hS hl
        subst ej18_7
        rcases gx_xx h with ⟨y8, u9, hc10, h⟩ | ⟨u9, hc10, ew⟩
        · refine cc_vS (As := [.int z0_18]) (rest := []) ⟨hx, hb, hml, hown, hts⟩ (k_X9_needArgument l D cI cZ ad u5 z0_18 hc10) (va_cwS 1 hts (gwS mw_392 mw_393 mw_48 mw_394) rfl rfl rfl (by decide +kernel) ⟨Nat.le_of_ble_eq_true rfl, Nat.le_of_ble_eq_true rfl⟩) hK hP hD hS hA hZ rfl hl.1 rfl (Nat.le_of_ble_eq_true rfl) dX9_openShoulder_18 ⟨Nat.zero_le _, Nat.zero_le _⟩ (fun H locs hP hD hS => ?_)
          refine lv_aload_n hx hb dX9_openShoulder_21 rfl (lv_at hl 0 rfl) ?_
          refine va_get (D := D) (ci := 9) (v := .ref (ad 5)) (C := RX9) (T := TX9) (N := 10) hx hb hts iX9 hown hK hP 0 rfl rfl 5 (by decide) hf44 (fun _ h9 => h9) rfl dX9_openShoulder_22 ?_
          refine lv_iload_n hx hb dX9_openShoulder_25 rfl (lv_at hl 1 rfl) ?_
          refine lv_iload_n hx hb dX9_openShoulder_26 rfl (lv_at hl 2 rfl) ?_
          refine lv_aload_n hx hb dX9_openShoulder_27 rfl (lv_at hl 0 rfl) ?_
          refine va_get (D := D) (ci := 9) (v := .int (c_minute u9)) (C := RX9) (T := TX9) (N := 10) hx hb hts iX9 hown hK hP 0 rfl rfl 0 (by decide) hf7 (fun _ h9 => h9) rfl dX9_openShoulder_28 ?_
          obtain ⟨y11, hc12, h⟩ := gx_bind h
          refine cc_iV (As := [.int p0, .int p1, .int (c_minute u9)]) (rest := []) ⟨hx, hb, hml, hown, hts⟩ (k_X6_canOpen l D cI cZ ad u9 p0 p1 (c_minute u9) hc12) (cwV 3 hts (gwV mw_694 mw_695 mw_696 mw_53 mw_697) rfl rfl rfl (by decide +kernel) ⟨Nat.le_of_ble_eq_true rfl, Nat.le_of_ble_eq_true rfl⟩) hK hP hD hS hA hZ (ci := 6) (q0 := 5) rfl rfl rfl hl.1 rfl (Nat.le_of_ble_eq_true rfl) dX9_openShoulder_31 ⟨Nat.zero_le _, Nat.zero_le _⟩ (fun H locs hP hD hS => ?_)
          rcases gx_xx h with ⟨y13, u14, hc15, h⟩ | ⟨u14, hc15, ew⟩
          · refine cc_vS (As := [.int y11]) (rest := []) ⟨hx, hb, hml, hown, hts⟩ (k_X9_needState l D cI cZ ad u9 y11 hc15) (va_cwS 1 hts (gwS mw_471 mw_472 mw_48 mw_473) rfl rfl rfl (by decide +kernel) ⟨Nat.le_of_ble_eq_true rfl, Nat.le_of_ble_eq_true rfl⟩) hK hP hD hS hA hZ rfl hl.1 rfl (Nat.le_of_ble_eq_true rfl) dX9_openShoulder_34 ⟨Nat.zero_le _, Nat.zero_le _⟩ (fun H locs hP hD hS => ?_)
            refine lv_aload_n hx hb dX9_openShoulder_37 rfl (lv_at hl 0 rfl) ?_
            refine va_get (D := D) (ci := 9) (v := .ref (ad 5)) (C := RX9) (T := TX9) (N := 10) hx hb hts iX9 hown hK hP 0 rfl rfl 5 (by decide) hf44 (fun _ h9 => h9) rfl dX9_openShoulder_38 ?_
            refine lv_iload_n hx hb dX9_openShoulder_41 rfl (lv_at hl 1 rfl) ?_
            refine lv_iload_n hx hb dX9_openShoulder_42 rfl (lv_at hl 2 rfl) ?_
            obtain ⟨y16, hc17, h⟩ := gx_bind h
            refine cc_iV (As := [.int p0, .int p1]) (rest := []) ⟨hx, hb, hml, hown, hts⟩ (k_X6_openAll l D cI cZ ad u14 p0 p1 hc17) (cwV 2 hts (gwV mw_699 mw_700 mw_701 mw_53 mw_702) rfl rfl rfl (by decide +kernel) ⟨Nat.le_of_ble_eq_true rfl, Nat.le_of_ble_eq_true rfl⟩) hK hP hD hS hA hZ (ci := 6) (q0 := 5) rfl rfl rfl hl.1 rfl (Nat.le_of_ble_eq_true rfl) dX9_openShoulder_43 ⟨Nat.zero_le _, Nat.zero_le _⟩ (fun H locs hP hD hS => ?_)
            cases h
          · replace ew : u14 = w' := ew
            subst ew
            refine cX_vS (As := [.int y11]) (rest := []) ⟨hx, hb, hml, hown, hts⟩ (kx_X9_needState l hl0 D cI cZ ad u9 y11 hc15) (va_cwS 1 hts (gwS mw_471 mw_472 mw_48 mw_473) rfl rfl rfl (by decide +kernel) ⟨Nat.le_of_ble_eq_true rfl, Nat.le_of_ble_eq_true rfl⟩) hK hP hD hS hA hZ rfl hl.1 rfl (Nat.le_of_ble_eq_true rfl) dX9_openShoulder_34 ⟨Nat.le_of_ble_eq_true rfl, Nat.le_of_ble_eq_true rfl⟩ (fun ce q9 H locs hP hD hS h1 h2 h3 => ?_)
            exact cX_back hAe hQ hout hlocks hK rfl hP hD hS h1 h2 h3 (Nat.le_refl _) (Nat.le_refl _)
        · replace ew : u9 = w' := ew
          subst ew
          refine cX_vS (As := [.int z0_18]) (rest := []) ⟨hx, hb, hml, hown, hts⟩ (kx_X9_needArgument l hl0 D cI cZ ad u5 z0_18 hc10) (va_cwS 1 hts (gwS mw_392 mw_393 mw_48 mw_394) rfl rfl rfl (by decide +kernel) ⟨Nat.le_of_ble_eq_true rfl, Nat.le_of_ble_eq_true rfl⟩) hK hP hD hS hA hZ rfl hl.1 rfl (Nat.le_of_ble_eq_true rfl) dX9_openShoulder_18 ⟨Nat.le_of_ble_eq_true rfl, Nat.le_of_ble_eq_true rfl⟩ (fun ce q9 H locs hP hD hS h1 h2 h3 => ?_)
          exact cX_back hAe hQ hout hlocks hK rfl hP hD hS h1 h2 h3 (Nat.le_refl _) (Nat.le_refl _)
      refine lv_icmp_gt (tgt := 17) hx hb dX9_openShoulder_10 (by decide) (fun c18 => ?_) (fun c18 => ?_)
      · replace h := gx_t c18 h
        refine lv_iconst (v := 0) hx hb dX9_openShoulder_17 (by decide) ?_
        exact hj18_7 (0 : Int32) _ _ _ h hP hD hS (lv_sub hl [0, 1, 2] rfl)
      · replace h := gx_f c18 h
        refine lv_iconst (v := 1) hx hb dX9_openShoulder_13 (by decide) ?_
        refine lv_goto (tgt := 18) hx hb dX9_openShoulder_14 (by decide) ?_
        exact hj18_7 (1 : Int32) _ _ _ h hP hD hS (lv_sub hl [0, 1, 2] rfl)
    · replace ew : u5 = w' := ew
      subst ew
      refine cX_vS (As := [.int p1]) (rest := []) ⟨hx, hb, hml, hown, hts⟩ (kx_X9_needSection l hl0 D cI cZ ad u2 p1 hc6) (va_cwS 1 hts (gwS mw_595 mw_596 mw_48 mw_597) rfl rfl rfl (by decide +kernel) ⟨Nat.le_of_ble_eq_true rfl, Nat.le_of_ble_eq_true rfl⟩) hK hP hD hS hA hZ rfl hl.1 rfl (Nat.le_of_ble_eq_true rfl) dX9_openShoulder_5 ⟨Nat.le_of_ble_eq_true rfl, Nat.le_of_ble_eq_true rfl⟩ (fun ce q9 H locs hP hD hS h1 h2 h3 => ?_)
      exact cX_back hAe hQ hout hlocks hK rfl hP hD hS h1 h2 h3 (Nat.le_refl _) (Nat.le_refl _)
  · replace ew : u2 = w' := ew
    subst ew
    refine cX_vS (As := [.int p0]) (rest := []) ⟨hx, hb, hml, hown, hts⟩ (kx_X9_needSection l hl0 D cI cZ ad u p0 hc3) (va_cwS 1 hts (gwS mw_595 mw_596 mw_48 mw_597) rfl rfl rfl (by decide +kernel) ⟨Nat.le_of_ble_eq_true rfl, Nat.le_of_ble_eq_true rfl⟩) hK hP hD hS hA hZ rfl hl.1 rfl (Nat.le_of_ble_eq_true rfl) dX9_openShoulder_1 ⟨Nat.le_of_ble_eq_true rfl, Nat.le_of_ble_eq_true rfl⟩ (fun ce q9 H locs hP hD hS h1 h2 h3 => ?_)
    exact cX_back hAe hQ hout hlocks hK rfl hP hD hS h1 h2 h3 (Nat.le_refl _) (Nat.le_refl _)

def rX9_shutShoulder : Room := { frames := 1, cells := 0, slots := 0, locals := 22 }
set_option maxHeartbeats 4000000 in
set_option maxRecDepth 100000 in
theorem k_X9_shutShoulder (l : Launch) (D : va_G) (cI cZ : ClassId) (ad : Nat → Nat) (u : GS) {r : Int32} {w' : GS} (h : g_X9_shutShoulder u = some (r, w')) : MI l yX9_shutShoulder (wm yX9_shutShoulder cX9_shutShoulder 1 (some .int)) rX9_shutShoulder D [(cI, .int), (cZ, .boolean)] (wC cI cZ ad u) (wC cI cZ ad w') [.ref (ad 0)] r := by
  intro sz
  refine Met.ofW (cc := cX9_shutShoulder) (maxL := 1) (ret := (some .int)) (by decide) rfl ?_
  intro p e s m args below meth c s₁ B hml hv
  obtain ⟨rfl, hsz, hP, hK, hD0, hZ⟩ := hv
  have hx := B.exec
  have hb := B.bytes
  have hr := B.returns
  have hts : ∀ w ∈ Wall, w.before _ s = true := fun w hw => atoms_spec (ws := wm yX9_shutShoulder cX9_shutShoulder 1 (some .int)) B.pre w (List.mem_cons_of_mem _ hw)
  have hown : s.vm.findClass RX9 = some m.cls := findClass_of_methodNamed B.named
  have hlocks := B.notSynchronized
  subst hsz
  have hD := hD0.self (sz := s.heap.size)
  generalize hAe : va_A (wC cI cZ ad u) s.heap.size = A at hD hZ ⊢
  have hA : ∀ q : Nat, s.heap.size ≤ q → A q := fun q h => by rw [← hAe]; exact Or.inr h
  have hS : va_S A s.heap s.heap [] := va_S.rf
  have hf44 := hts _ mw_309
  have hl := lv_entry ([.ref (ad 0)]) (n := 1) (Nat.le_of_ble_eq_true rfl)
  rw [lg_entry_eq]
  generalize (lg_sl ([.ref (ad 0)]) ++ List.replicate (1 - (lg_sl ([.ref (ad 0)])).length) Slot.unset).toArray = ls at hl ⊢
  replace hl : lv_has ls 1 [(0, .ref (ad 0))] := hl
  refine w_gen (fun Q hQ => ?_)
  refine lv_aload_n hx hb dX9_shutShoulder_0 rfl (lv_at hl 0 rfl) ?_
  refine va_get (D := D) (ci := 9) (v := .ref (ad 5)) (C := RX9) (T := TX9) (N := 10) hx hb hts iX9 hown hK hP 0 rfl rfl 5 (by decide) hf44 (fun _ h9 => h9) rfl dX9_shutShoulder_1 ?_
  obtain ⟨y1, hc2, h⟩ := gx_bind h
  refine cc_iV (As := []) (rest := []) ⟨hx, hb, hml, hown, hts⟩ (k_X6_shutAll l D cI cZ ad u hc2) (cwV 0 hts (gwV mw_355 mw_356 mw_357 mw_53 mw_358) rfl rfl rfl (by decide +kernel) ⟨Nat.le_of_ble_eq_true rfl, Nat.le_of_ble_eq_true rfl⟩) hK hP hD hS hA hZ (ci := 6) (q0 := 5) rfl rfl rfl hl.1 rfl (Nat.le_of_ble_eq_true rfl) dX9_shutShoulder_4 ⟨Nat.zero_le _, Nat.zero_le _⟩ (fun H locs hP hD hS => ?_)
  cases h
  exact cc_ret hx hb hr rfl hQ hK hP hD hS rfl dX9_shutShoulder_7 hlocks

def rX9_stop : Room := { frames := 3, cells := 0, slots := 0, locals := 63 }
set_option maxHeartbeats 4000000 in
set_option maxRecDepth 100000 in
theorem k_X9_stop (l : Launch) (D : va_G) (cI cZ : ClassId) (ad : Nat → Nat) (u : GS) (p0 : Int32) (p1 : Int32) {r : Int32} {w' : GS} (h : g_X9_stop u p0 p1 = some (.inl r, w')) : MV l yX9_stop (wm yX9_stop cX9_stop 4 none) rX9_stop D [(cI, .int), (cZ, .boolean)] (wC cI cZ ad u) (wC cI cZ ad w') [.ref (ad 0), .int p0, .int p1] := by
  intro sz
  refine Met.ofW (cc := cX9_stop) (maxL := 4) (ret := none) (by decide) rfl ?_
  intro p e s m args below meth c s₁ B hml hv
  obtain ⟨rfl, hsz, hP, hK, hD0, hZ⟩ := hv
  have hx := B.exec
  have hb := B.bytes
  have hr := B.returns
  have hts : ∀ w ∈ Wall, w.before _ s = true := fun w hw => atoms_spec (ws := wm yX9_stop cX9_stop 4 none) B.pre w (List.mem_cons_of_mem _ hw)
  have hown : s.vm.findClass RX9 = some m.cls := findClass_of_methodNamed B.named
  have hlocks := B.notSynchronized
  subst hsz
  have hD := hD0.self (sz := s.heap.size)
  generalize hAe : va_A (wC cI cZ ad u) s.heap.size = A at hD hZ ⊢
  have hA : ∀ q : Nat, s.heap.size ≤ q → A q := fun q h => by rw [← hAe]; exact Or.inr h
  have hS : va_S A s.heap s.heap [] := va_S.rf
  have hf16 := hts _ mw_305
  have hf191 := hts _ mw_83
  have hf44 := hts _ mw_309
  have hf179 := hts _ mw_174
  have hl := lv_entry ([.ref (ad 0), .int p0, .int p1]) (n := 4) (Nat.le_of_ble_eq_true rfl)
  rw [lg_entry_eq]
  generalize (lg_sl ([.ref (ad 0), .int p0, .int p1]) ++ List.replicate (4 - (lg_sl ([.ref (ad 0), .int p0, .int p1])).length) Slot.unset).toArray = ls at hl ⊢
  replace hl : lv_has ls 4 [(0, .ref (ad 0)), (1, .int p0), (2, .int p1)] := hl
  refine w_gen (fun Q hQ => ?_)
  refine lv_iload_n hx hb dX9_stop_0 rfl (lv_at hl 1 rfl) ?_
  refine lv_iload_n hx hb dX9_stop_1 rfl (lv_at hl 2 rfl) ?_
  obtain ⟨y1, u2, hc3, h⟩ := gx_xr h
  refine cc_vS (As := [.int p0, .int p1]) (rest := []) ⟨hx, hb, hml, hown, hts⟩ (k_X9_needPlace l D cI cZ ad u p0 p1 hc3) (va_cwS 2 hts (gwS mw_592 mw_593 mw_48 mw_594) rfl rfl rfl (by decide +kernel) ⟨Nat.le_of_ble_eq_true rfl, Nat.le_of_ble_eq_true rfl⟩) hK hP hD hS hA hZ rfl hl.1 rfl (Nat.le_of_ble_eq_true rfl) dX9_stop_2 ⟨Nat.zero_le _, Nat.zero_le _⟩ (fun H locs hP hD hS => ?_)
  refine lv_iload_n hx hb dX9_stop_5 rfl (lv_at hl 1 rfl) ?_
  refine lv_iload_n hx hb dX9_stop_6 rfl (lv_at hl 2 rfl) ?_
  obtain ⟨y4, hc5, h⟩ := gx_bind h
  refine cc_iS (As := [.int p0, .int p1]) (rest := []) ⟨hx, hb, hml, hown, hts⟩ (k_X9_placeOf l D cI cZ ad u2 p0 p1 hc5) (va_cwS 2 hts (gwS mw_617 mw_266 mw_48 mw_267) rfl rfl rfl (by decide +kernel) ⟨Nat.le_of_ble_eq_true rfl, Nat.le_of_ble_eq_true rfl⟩) hK hP hD hS hA hZ rfl hl.1 rfl (Nat.le_of_ble_eq_true rfl) dX9_stop_7 ⟨Nat.zero_le _, Nat.zero_le _⟩ (fun H locs hP hD hS => ?_)
  refine lv_istore_n (lv' := [(3, .int y4), (0, .ref (ad 0)), (1, .int p0), (2, .int p1)]) hx hb dX9_stop_10 rfl hl (by decide) rfl (fun ls hl => ?_)
  refine lv_aload_n hx hb dX9_stop_11 rfl (lv_at hl 1 rfl) ?_
  refine va_get (D := D) (ci := 9) (v := .ref (ad 1)) (C := RX9) (T := TX9) (N := 10) hx hb hts iX9 hown hK hP 0 rfl rfl 1 (by decide) hf16 (fun _ h9 => h9) rfl dX9_stop_12 ?_
  refine va_get (D := D) (ci := 8) (v := .ref (ad 11)) (C := RX8) (T := TX8) (N := 7) hx hb hts iX8 hown hK hP 1 rfl rfl 1 (by decide) hf191 (fun _ h9 => h9) rfl dX9_stop_15 ?_
  refine lv_iload_n hx hb dX9_stop_18 rfl (lv_at hl 0 rfl) ?_
  obtain ⟨b6, h⟩ := gx_in h
  refine va_zald (D := D) hx hb hK hP 11 1 rfl rfl b6 dX9_stop_19 ?_
  obtain ⟨j28_7, ej28_7, h⟩ := gx_let h
  have hj28_7 : ∀ (z0_28 : Int32) (H : Heap) (locs : List Loc) (ls : Array Slot), j28_7 z0_28 = some (.inl r, w') → va_P D vwCl (wC cI cZ ad u2) H → va_D A (wC cI cZ ad u2) → va_S A s.heap H locs → lv_has ls 4 [(0, .ref (ad 0)), (1, .int p0), (2, .int p1), (3, .int y4)] → W p l e rX9_stop s m ([.ref (ad 0), .int p0, .int p1] : List Value).toArray below meth c H locs 0 0 Q (F0 m 28 ls [.int z0_28]) := by
    intro z0_28 H locs ls h hP hD hS hl
    subst ej28_7
    obtain ⟨y8, u9, hc10, h⟩ := gx_xr h
    refine cc_vS (As := [.int z0_28]) (rest := []) ⟨hx, hb, hml, hown, hts⟩ (k_X9_needState l D cI cZ ad u2 z0_28 hc10) (va_cwS 1 hts (gwS mw_471 mw_472 mw_48 mw_473) rfl rfl rfl (by decide +kernel) ⟨Nat.le_of_ble_eq_true rfl, Nat.le_of_ble_eq_true rfl⟩) hK hP hD hS hA hZ rfl hl.1 rfl (Nat.le_of_ble_eq_true rfl) dX9_stop_28 ⟨Nat.zero_le _, Nat.zero_le _⟩ (fun H locs hP hD hS => ?_)
    refine lv_aload_n hx hb dX9_stop_31 rfl (lv_at hl 0 rfl) ?_
    refine va_get (D := D) (ci := 9) (v := .ref (ad 1)) (C := RX9) (T := TX9) (N := 10) hx hb hts iX9 hown hK hP 0 rfl rfl 1 (by decide) hf16 (fun _ h9 => h9) rfl dX9_stop_32 ?_
    refine va_get (D := D) (ci := 8) (v := .ref (ad 11)) (C := RX8) (T := TX8) (N := 7) hx hb hts iX8 hown hK hP 1 rfl rfl 1 (by decide) hf191 (fun _ h9 => h9) rfl dX9_stop_35 ?_
    refine lv_iload_n hx hb dX9_stop_38 rfl (lv_at hl 3 rfl) ?_
    refine lv_iconst (v := 1) hx hb dX9_stop_39 (by decide) ?_
    obtain ⟨b11, h⟩ := gx_in h
    refine va_zast (D := D) hx hb hK hP hD hS 11 1 rfl rfl b11 dX9_stop_40 (fun H locs hP hD hS => ?_)
    obtain ⟨u12, eu12, h⟩ := gx_let h
    replace hP : va_P D vwCl (wC cI cZ ad u12) H := by rw [← eu12]; exact hP
    replace hD : va_D A (wC cI cZ ad u12) := by rw [← eu12]; exact hD
    refine lv_iload_n hx hb dX9_stop_41 rfl (lv_at hl 2 rfl) ?_
    refine lv_if_ne (tgt := 65) hx hb dX9_stop_42 (by decide) (fun c13 => ?_) (fun c13 => ?_)
    · replace h := gx_f c13 h
      cases h
      exact cc_vret hx hb hr hQ hK hP hD hS dX9_stop_65 hlocks
    · replace h := gx_t c13 h
      refine lv_aload_n hx hb dX9_stop_45 rfl (lv_at hl 0 rfl) ?_
      refine va_get (D := D) (ci := 9) (v := .ref (ad 5)) (C := RX9) (T := TX9) (N := 10) hx hb hts iX9 hown hK hP 0 rfl rfl 5 (by decide) hf44 (fun _ h9 => h9) rfl dX9_stop_46 ?_
      refine va_get (D := D) (ci := 6) (v := .ref (ad 22)) (C := RX6) (T := TX6) (N := 2) hx hb hts iX6 hown hK hP 5 rfl rfl 1 (by decide) hf179 (fun _ h9 => h9) rfl dX9_stop_49 ?_
      refine lv_iload_n hx hb dX9_stop_52 rfl (lv_at hl 1 rfl) ?_
      refine lv_sipush (v := (-1000)) hx hb dX9_stop_53 (by decide) ?_
      obtain ⟨b14, h⟩ := gx_in h
      refine va_iast (D := D) hx hb hK hP hD hS 22 0 rfl rfl b14 dX9_stop_56 (fun H locs hP hD hS => ?_)
      obtain ⟨u15, eu15, h⟩ := gx_let h
      replace hP : va_P D vwCl (wC cI cZ ad u15) H := by rw [← eu15]; exact hP
      replace hD : va_D A (wC cI cZ ad u15) := by rw [← eu15]; exact hD
      refine lv_aload_n hx hb dX9_stop_57 rfl (lv_at hl 0 rfl) ?_
      refine va_get (D := D) (ci := 9) (v := .ref (ad 5)) (C := RX9) (T := TX9) (N := 10) hx hb hts iX9 hown hK hP 0 rfl rfl 5 (by decide) hf44 (fun _ h9 => h9) rfl dX9_stop_58 ?_
      obtain ⟨y16, hc17, h⟩ := gx_bind h
      refine cc_iV (As := []) (rest := []) ⟨hx, hb, hml, hown, hts⟩ (k_X6_shutAll l D cI cZ ad u15 hc17) (cwV 0 hts (gwV mw_355 mw_356 mw_357 mw_53 mw_358) rfl rfl rfl (by decide +kernel) ⟨Nat.le_of_ble_eq_true rfl, Nat.le_of_ble_eq_true rfl⟩) hK hP hD hS hA hZ (ci := 6) (q0 := 5) rfl rfl rfl hl.1 rfl (Nat.le_of_ble_eq_true rfl) dX9_stop_61 ⟨Nat.zero_le _, Nat.zero_le _⟩ (fun H locs hP hD hS => ?_)
      refine lv_pop hx hb dX9_stop_64 rfl ?_
      cases h
      exact cc_vret hx hb hr hQ hK hP hD hS dX9_stop_65 hlocks
  refine lv_if_ne (tgt := 27) hx hb dX9_stop_20 (by decide) (fun c18 => ?_) (fun c18 => ?_)
  · replace h := gx_f c18 h
    refine lv_iconst (v := 0) hx hb dX9_stop_27 (by decide) ?_
    exact hj28_7 (0 : Int32) _ _ _ h hP hD hS (lv_sub hl [1, 2, 3, 0] rfl)
  · replace h := gx_t c18 h
    refine lv_iconst (v := 1) hx hb dX9_stop_23 (by decide) ?_
    refine lv_goto (tgt := 28) hx hb dX9_stop_24 (by decide) ?_
    exact hj28_7 (1 : Int32) _ _ _ h hP hD hS (lv_sub hl [1, 2, 3, 0] rfl)

def rx_X9_stop : Room := { frames := 9, cells := 1, slots := 6, locals := 151 }
set_option maxHeartbeats 4000000 in
set_option maxRecDepth 100000 in
theorem kx_X9_stop (l : Launch) (hl0 : l.stackTraces = false) (D : va_G) (cI cZ : ClassId) (ad : Nat → Nat) (u : GS) (p0 : Int32) (p1 : Int32) {E : String} {w' : GS} (h : g_X9_stop u p0 p1 = some (.inr E, w')) : XV l yX9_stop (wm yX9_stop cX9_stop 4 none) rx_X9_stop D [(cI, .int), (cZ, .boolean)] (wC cI cZ ad u) (wC cI cZ ad w') [.ref (ad 0), .int p0, .int p1] E := by
  intro sz
  refine vx_ofW (cc := cX9_stop) (maxL := 4) (ret := none) (by decide) rfl ?_
  intro p e s m args below meth c s₁ B hml hout hv
  obtain ⟨rfl, hsz, hP, hK, hD0, hZ⟩ := hv
  have hx := B.exec
  have hb := B.bytes
  have hts : ∀ w ∈ Wall, w.before _ s = true := fun w hw => atoms_spec (ws := wm yX9_stop cX9_stop 4 none) B.pre w (List.mem_cons_of_mem _ hw)
  have hown : s.vm.findClass RX9 = some m.cls := findClass_of_methodNamed B.named
  have hlocks := B.notSynchronized
  subst hsz
  have hD := hD0.self (sz := s.heap.size)
  generalize hAe : va_A (wC cI cZ ad u) s.heap.size = A at hD hZ
  have hA : ∀ q : Nat, s.heap.size ≤ q → A q := fun q h => by rw [← hAe]; exact Or.inr h
  have hS : va_S A s.heap s.heap [] := va_S.rf
  have hf16 := hts _ mw_305
  have hf191 := hts _ mw_83
  have hf44 := hts _ mw_309
  have hf179 := hts _ mw_174
  have hl := lv_entry ([.ref (ad 0), .int p0, .int p1]) (n := 4) (Nat.le_of_ble_eq_true rfl)
  rw [lg_entry_eq]
  generalize (lg_sl ([.ref (ad 0), .int p0, .int p1]) ++ List.replicate (4 - (lg_sl ([.ref (ad 0), .int p0, .int p1])).length) Slot.unset).toArray = ls at hl ⊢
  replace hl : lv_has ls 4 [(0, .ref (ad 0)), (1, .int p0), (2, .int p1)] := hl
  refine w_gen (fun Q hQ => ?_)
  refine lv_iload_n hx hb dX9_stop_0 rfl (lv_at hl 1 rfl) ?_
  refine lv_iload_n hx hb dX9_stop_1 rfl (lv_at hl 2 rfl) ?_
  rcases gx_xx h with ⟨y1, u2, hc3, h⟩ | ⟨u2, hc3, ew⟩
  · refine cc_vS (As := [.int p0, .int p1]) (rest := []) ⟨hx, hb, hml, hown, hts⟩ (k_X9_needPlace l D cI cZ ad u p0 p1 hc3) (va_cwS 2 hts (gwS mw_592 mw_593 mw_48 mw_594) rfl rfl rfl (by decide +kernel) ⟨Nat.le_of_ble_eq_true rfl, Nat.le_of_ble_eq_true rfl⟩) hK hP hD hS hA hZ rfl hl.1 rfl (Nat.le_of_ble_eq_true rfl) dX9_stop_2 ⟨Nat.zero_le _, Nat.zero_le _⟩ (fun H locs hP hD hS => ?_)
    refine lv_iload_n hx hb dX9_stop_5 rfl (lv_at hl 1 rfl) ?_
    refine lv_iload_n hx hb dX9_stop_6 rfl (lv_at hl 2 rfl) ?_
    obtain ⟨y4, hc5, h⟩ := gx_bind h
    refine cc_iS (As := [.int p0, .int p1]) (rest := []) ⟨hx, hb, hml, hown, hts⟩ (k_X9_placeOf l D cI cZ ad u2 p0 p1 hc5) (va_cwS 2 hts (gwS mw_617 mw_266 mw_48 mw_267) rfl rfl rfl (by decide +kernel) ⟨Nat.le_of_ble_eq_true rfl, Nat.le_of_ble_eq_true rfl⟩) hK hP hD hS hA hZ rfl hl.1 rfl (Nat.le_of_ble_eq_true rfl) dX9_stop_7 ⟨Nat.zero_le _, Nat.zero_le _⟩ (fun H locs hP hD hS => ?_)
    refine lv_istore_n (lv' := [(3, .int y4), (0, .ref (ad 0)), (1, .int p0), (2, .int p1)]) hx hb dX9_stop_10 rfl hl (by decide) rfl (fun ls hl => ?_)
    refine lv_aload_n hx hb dX9_stop_11 rfl (lv_at hl 1 rfl) ?_
    refine va_get (D := D) (ci := 9) (v := .ref (ad 1)) (C := RX9) (T := TX9) (N := 10) hx hb hts iX9 hown hK hP 0 rfl rfl 1 (by decide) hf16 (fun _ h9 => h9) rfl dX9_stop_12 ?_
    refine va_get (D := D) (ci := 8) (v := .ref (ad 11)) (C := RX8) (T := TX8) (N := 7) hx hb hts iX8 hown hK hP 1 rfl rfl 1 (by decide) hf191 (fun _ h9 => h9) rfl dX9_stop_15 ?_
    refine lv_iload_n hx hb dX9_stop_18 rfl (lv_at hl 0 rfl) ?_
    obtain ⟨b6, h⟩ := gx_in h
    refine va_zald (D := D) hx hb hK hP 11 1 rfl rfl b6 dX9_stop_19 ?_
    obtain ⟨j28_7, ej28_7, h⟩ := gx_let h
    have hj28_7 : ∀ (z0_28 : Int32) (H : Heap) (locs : List Loc) (ls : Array Slot), j28_7 z0_28 = some (.inr E, w') → va_P D vwCl (wC cI cZ ad u2) H → va_D A (wC cI cZ ad u2) → va_S A s.heap H locs → lv_has ls 4 [(0, .ref (ad 0)), (1, .int p0), (2, .int p1), (3, .int y4)] → W p l e rx_X9_stop s m ([.ref (ad 0), .int p0, .int p1] : List Value).toArray below meth c H locs 0 0 Q (F0 m 28 ls [.int z0_28]) := by
      intro z0_28 H locs ls h hP hD hS hl
      subst ej28_7
      rcases gx_xx h with ⟨y8, u9, hc10, h⟩ | ⟨u9, hc10, ew⟩
      · refine cc_vS (As := [.int z0_28]) (rest := []) ⟨hx, hb, hml, hown, hts⟩ (k_X9_needState l D cI cZ ad u2 z0_28 hc10) (va_cwS 1 hts (gwS mw_471 mw_472 mw_48 mw_473) rfl rfl rfl (by decide +kernel) ⟨Nat.le_of_ble_eq_true rfl, Nat.le_of_ble_eq_true rfl⟩) hK hP hD hS hA hZ rfl hl.1 rfl (Nat.le_of_ble_eq_true rfl) dX9_stop_28 ⟨Nat.zero_le _, Nat.zero_le _⟩ (fun H locs hP hD hS => ?_)
        refine lv_aload_n hx hb dX9_stop_31 rfl (lv_at hl 0 rfl) ?_
        refine va_get (D := D) (ci := 9) (v := .ref (ad 1)) (C := RX9) (T := TX9) (N := 10) hx hb hts iX9 hown hK hP 0 rfl rfl 1 (by decide) hf16 (fun _ h9 => h9) rfl dX9_stop_32 ?_
        refine va_get (D := D) (ci := 8) (v := .ref (ad 11)) (C := RX8) (T := TX8) (N := 7) hx hb hts iX8 hown hK hP 1 rfl rfl 1 (by decide) hf191 (fun _ h9 => h9) rfl dX9_stop_35 ?_
        refine lv_iload_n hx hb dX9_stop_38 rfl (lv_at hl 3 rfl) ?_
        refine lv_iconst (v := 1) hx hb dX9_stop_39 (by decide) ?_
        obtain ⟨b11, h⟩ := gx_in h
        refine va_zast (D := D) hx hb hK hP hD hS 11 1 rfl rfl b11 dX9_stop_40 (fun H locs hP hD hS => ?_)
        obtain ⟨u12, eu12, h⟩ := gx_let h
        replace hP : va_P D vwCl (wC cI cZ ad u12) H := by rw [← eu12]; exact hP
        replace hD : va_D A (wC cI cZ ad u12) := by rw [← eu12]; exact hD
        refine lv_iload_n hx hb dX9_stop_41 rfl (lv_at hl 2 rfl) ?_
        refine lv_if_ne (tgt := 65) hx hb dX9_stop_42 (by decide) (fun c13 => ?_) (fun c13 => ?_)
        · replace h := gx_f c13 h
          cases h
        · replace h := gx_t c13 h
          refine lv_aload_n hx hb dX9_stop_45 rfl (lv_at hl 0 rfl) ?_
          refine va_get (D := D) (ci := 9) (v := .ref (ad 5)) (C := RX9) (T := TX9) (N := 10) hx hb hts iX9 hown hK hP 0 rfl rfl 5 (by decide) hf44 (fun _ h9 => h9) rfl dX9_stop_46 ?_
          refine va_get (D := D) (ci := 6) (v := .ref (ad 22)) (C := RX6) (T := TX6) (N := 2) hx hb hts iX6 hown hK hP 5 rfl rfl 1 (by decide) hf179 (fun _ h9 => h9) rfl dX9_stop_49 ?_
          refine lv_iload_n hx hb dX9_stop_52 rfl (lv_at hl 1 rfl) ?_
          refine lv_sipush (v := (-1000)) hx hb dX9_stop_53 (by decide) ?_
          obtain ⟨b14, h⟩ := gx_in h
          refine va_iast (D := D) hx hb hK hP hD hS 22 0 rfl rfl b14 dX9_stop_56 (fun H locs hP hD hS => ?_)
          obtain ⟨u15, eu15, h⟩ := gx_let h
          replace hP : va_P D vwCl (wC cI cZ ad u15) H := by rw [← eu15]; exact hP
          replace hD : va_D A (wC cI cZ ad u15) := by rw [← eu15]; exact hD
          refine lv_aload_n hx hb dX9_stop_57 rfl (lv_at hl 0 rfl) ?_
          refine va_get (D := D) (ci := 9) (v := .ref (ad 5)) (C := RX9) (T := TX9) (N := 10) hx hb hts iX9 hown hK hP 0 rfl rfl 5 (by decide) hf44 (fun _ h9 => h9) rfl dX9_stop_58 ?_
          obtain ⟨y16, hc17, h⟩ := gx_bind h
          refine cc_iV (As := []) (rest := []) ⟨hx, hb, hml, hown, hts⟩ (k_X6_shutAll l D cI cZ ad u15 hc17) (cwV 0 hts (gwV mw_355 mw_356 mw_357 mw_53 mw_358) rfl rfl rfl (by decide +kernel) ⟨Nat.le_of_ble_eq_true rfl, Nat.le_of_ble_eq_true rfl⟩) hK hP hD hS hA hZ (ci := 6) (q0 := 5) rfl rfl rfl hl.1 rfl (Nat.le_of_ble_eq_true rfl) dX9_stop_61 ⟨Nat.zero_le _, Nat.zero_le _⟩ (fun H locs hP hD hS => ?_)
          refine lv_pop hx hb dX9_stop_64 rfl ?_
          cases h
      · replace ew : u9 = w' := ew
        subst ew
        refine cX_vS (As := [.int z0_28]) (rest := []) ⟨hx, hb, hml, hown, hts⟩ (kx_X9_needState l hl0 D cI cZ ad u2 z0_28 hc10) (va_cwS 1 hts (gwS mw_471 mw_472 mw_48 mw_473) rfl rfl rfl (by decide +kernel) ⟨Nat.le_of_ble_eq_true rfl, Nat.le_of_ble_eq_true rfl⟩) hK hP hD hS hA hZ rfl hl.1 rfl (Nat.le_of_ble_eq_true rfl) dX9_stop_28 ⟨Nat.le_of_ble_eq_true rfl, Nat.le_of_ble_eq_true rfl⟩ (fun ce q9 H locs hP hD hS h1 h2 h3 => ?_)
        exact cX_back hAe hQ hout hlocks hK rfl hP hD hS h1 h2 h3 (Nat.le_refl _) (Nat.le_refl _)
    refine lv_if_ne (tgt := 27) hx hb dX9_stop_20 (by decide) (fun c18 => ?_) (fun c18 => ?_)
    · replace h := gx_f c18 h
      refine lv_iconst (v := 0) hx hb dX9_stop_27 (by decide) ?_
      exact hj28_7 (0 : Int32) _ _ _ h hP hD hS (lv_sub hl [1, 2, 3, 0] rfl)
    · replace h := gx_t c18 h
      refine lv_iconst (v := 1) hx hb dX9_stop_23 (by decide) ?_
      refine lv_goto (tgt := 28) hx hb dX9_stop_24 (by decide) ?_
      exact hj28_7 (1 : Int32) _ _ _ h hP hD hS (lv_sub hl [1, 2, 3, 0] rfl)
  · replace ew : u2 = w' := ew
    subst ew
    refine cX_vS (As := [.int p0, .int p1]) (rest := []) ⟨hx, hb, hml, hown, hts⟩ (kx_X9_needPlace l hl0 D cI cZ ad u p0 p1 hc3) (va_cwS 2 hts (gwS mw_592 mw_593 mw_48 mw_594) rfl rfl rfl (by decide +kernel) ⟨Nat.le_of_ble_eq_true rfl, Nat.le_of_ble_eq_true rfl⟩) hK hP hD hS hA hZ rfl hl.1 rfl (Nat.le_of_ble_eq_true rfl) dX9_stop_2 ⟨Nat.le_of_ble_eq_true rfl, Nat.le_of_ble_eq_true rfl⟩ (fun ce q9 H locs hP hD hS h1 h2 h3 => ?_)
    exact cX_back hAe hQ hout hlocks hK rfl hP hD hS h1 h2 h3 (Nat.le_refl _) (Nat.le_refl _)
