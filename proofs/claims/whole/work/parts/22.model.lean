def rX10_shutShoulder : Room := { frames := 1, cells := 0, slots := 0, locals := 22 }
set_option maxHeartbeats 4000000 in
set_option maxRecDepth 100000 in
theorem k_X10_shutShoulder (l : Launch) (D : va_G) (cI cZ : ClassId) (ad : Nat → Nat) (u : MS) {r : Int32} {w' : MS} (h : g_X10_shutShoulder u = some (r, w')) : MI l yX10_shutShoulder (wm yX10_shutShoulder cX10_shutShoulder 1 (some .int)) rX10_shutShoulder D [(cI, .int), (cZ, .boolean)] (wM cI cZ ad u) (wM cI cZ ad w') [.ref (ad 0)] r := by
  intro sz
  refine Met.ofW (cc := cX10_shutShoulder) (maxL := 1) (ret := (some .int)) (by decide) rfl ?_
  intro p e s m args below meth c s₁ B hml hv
  obtain ⟨rfl, hsz, hP, hK, hD0, hZ⟩ := hv
  have hx := B.exec
  have hb := B.bytes
  have hr := B.returns
  have hts : ∀ w ∈ Wall, w.before _ s = true := fun w hw => atoms_spec (ws := wm yX10_shutShoulder cX10_shutShoulder 1 (some .int)) B.pre w (List.mem_cons_of_mem _ hw)
  have hown : s.vm.findClass RX10 = some m.cls := findClass_of_methodNamed B.named
  have hlocks := B.notSynchronized
  subst hsz
  have hD := hD0.self (sz := s.heap.size)
  generalize hAe : va_A (wM cI cZ ad u) s.heap.size = A at hD hZ ⊢
  have hA : ∀ q : Nat, s.heap.size ≤ q → A q := fun q h => by rw [← hAe]; exact Or.inr h
  have hS : va_S A s.heap s.heap [] := va_S.rf
  have hf83 := hts _ mw_871
  have hl := lv_entry ([.ref (ad 0)]) (n := 1) (Nat.le_of_ble_eq_true rfl)
  rw [lg_entry_eq]
  generalize (lg_sl ([.ref (ad 0)]) ++ List.replicate (1 - (lg_sl ([.ref (ad 0)])).length) Slot.unset).toArray = ls at hl ⊢
  replace hl : lv_has ls 1 [(0, .ref (ad 0))] := hl
  refine w_gen (fun Q hQ => ?_)
  refine lv_aload_n hx hb dX10_shutShoulder_0 rfl (lv_at hl 0 rfl) ?_
  refine lv_iconst (v := 0) hx hb dX10_shutShoulder_1 (by decide) ?_
  refine va_put (D := D) (ci := 10) (v := .int (0 : Int32)) (ty := .int) (C := RX10) (T := TX10) (N := 32) hx hb hts iX10 tyX10 tyX10_ok nmX10 hown hK hP hD hS 0 rfl rfl 0 (by decide) hf83 (fun _ h9 => h9) rfl (by decide +kernel) rfl rfl (Nat.le_of_ble_eq_true rfl) dX10_shutShoulder_2 (fun H locs hP hD hS => ?_)
  obtain ⟨u1, eu1, h⟩ := gx_let h
  replace hP : va_P D vwCl (wM cI cZ ad u1) H := by rw [← eu1]; exact hP
  replace hD : va_D A (wM cI cZ ad u1) := by rw [← eu1]; exact hD
  refine lv_aload_n hx hb dX10_shutShoulder_5 rfl (lv_at hl 0 rfl) ?_
  obtain ⟨y2, hc3, h⟩ := gx_bind h
  refine cc_iV (As := []) (rest := []) ⟨hx, hb, hml, hown, hts⟩ (k_X10_shuts l D cI cZ ad u1 hc3) (cwV 0 hts (gwV mw_1090 mw_1092 mw_38 mw_59 mw_1093) rfl rfl rfl (by decide +kernel) ⟨Nat.le_of_ble_eq_true rfl, Nat.le_of_ble_eq_true rfl⟩) hK hP hD hS hA hZ (ci := 10) (q0 := 0) rfl rfl rfl hl.1 rfl (Nat.le_of_ble_eq_true rfl) dX10_shutShoulder_6 ⟨Nat.zero_le _, Nat.zero_le _⟩ (fun H locs hP hD hS => ?_)
  cases h
  exact cc_ret hx hb hr rfl hQ hK hP hD hS rfl dX10_shutShoulder_9 hlocks

def rX10_stop : Room := { frames := 3, cells := 0, slots := 0, locals := 63 }
set_option maxHeartbeats 4000000 in
set_option maxRecDepth 100000 in
theorem k_X10_stop (l : Launch) (D : va_G) (cI cZ : ClassId) (ad : Nat → Nat) (u : MS) (p0 : Int32) (p1 : Int32) {w' : MS} (h : g_X10_stop u p0 p1 = some w') : MV l yX10_stop (wm yX10_stop cX10_stop 4 none) rX10_stop D [(cI, .int), (cZ, .boolean)] (wM cI cZ ad u) (wM cI cZ ad w') [.ref (ad 0), .int p0, .int p1] := by
  intro sz
  refine Met.ofW (cc := cX10_stop) (maxL := 4) (ret := none) (by decide) rfl ?_
  intro p e s m args below meth c s₁ B hml hv
  obtain ⟨rfl, hsz, hP, hK, hD0, hZ⟩ := hv
  have hx := B.exec
  have hb := B.bytes
  have hr := B.returns
  have hts : ∀ w ∈ Wall, w.before _ s = true := fun w hw => atoms_spec (ws := wm yX10_stop cX10_stop 4 none) B.pre w (List.mem_cons_of_mem _ hw)
  have hown : s.vm.findClass RX10 = some m.cls := findClass_of_methodNamed B.named
  have hlocks := B.notSynchronized
  subst hsz
  have hD := hD0.self (sz := s.heap.size)
  generalize hAe : va_A (wM cI cZ ad u) s.heap.size = A at hD hZ ⊢
  have hA : ∀ q : Nat, s.heap.size ≤ q → A q := fun q h => by rw [← hAe]; exact Or.inr h
  have hS : va_S A s.heap s.heap [] := va_S.rf
  have hf13 := hts _ mw_878
  have hf29 := hts _ mw_883
  have hl := lv_entry ([.ref (ad 0), .int p0, .int p1]) (n := 4) (Nat.le_of_ble_eq_true rfl)
  rw [lg_entry_eq]
  generalize (lg_sl ([.ref (ad 0), .int p0, .int p1]) ++ List.replicate (4 - (lg_sl ([.ref (ad 0), .int p0, .int p1])).length) Slot.unset).toArray = ls at hl ⊢
  replace hl : lv_has ls 4 [(0, .ref (ad 0)), (1, .int p0), (2, .int p1)] := hl
  refine w_gen (fun Q hQ => ?_)
  refine lv_iload_n hx hb dX10_stop_0 rfl (lv_at hl 1 rfl) ?_
  refine lv_iload_n hx hb dX10_stop_1 rfl (lv_at hl 2 rfl) ?_
  obtain ⟨y1, hc2, h⟩ := gx_bind h
  refine cc_iS (As := [.int p0, .int p1]) (rest := []) ⟨hx, hb, hml, hown, hts⟩ (k_X10_isPlace l D cI cZ ad u p0 p1 hc2) (va_cwS 2 hts (gwS mw_1036 mw_1037 mw_59 mw_1038) rfl rfl rfl (by decide +kernel) ⟨Nat.le_of_ble_eq_true rfl, Nat.le_of_ble_eq_true rfl⟩) hK hP hD hS hA hZ rfl hl.1 rfl (Nat.le_of_ble_eq_true rfl) dX10_stop_2 ⟨Nat.zero_le _, Nat.zero_le _⟩ (fun H locs hP hD hS => ?_)
  refine lv_istore_n (lv' := [(3, .int y1), (0, .ref (ad 0)), (1, .int p0), (2, .int p1)]) hx hb dX10_stop_5 rfl hl (by decide) rfl (fun ls hl => ?_)
  refine lv_aload_n hx hb dX10_stop_6 rfl (lv_at hl 1 rfl) ?_
  refine lv_iload_n hx hb dX10_stop_7 rfl (lv_at hl 0 rfl) ?_
  obtain ⟨j33_3, ej33_3, h⟩ := gx_let h
  have hj33_3 : ∀ (z0_33 : Int32) (H : Heap) (locs : List Loc) (ls : Array Slot), j33_3 z0_33 = some w' → va_P D vwCl (wM cI cZ ad u) H → va_D A (wM cI cZ ad u) → va_S A s.heap H locs → lv_has ls 4 [(0, .ref (ad 0)), (1, .int p0), (2, .int p1)] → W p l e rX10_stop s m ([.ref (ad 0), .int p0, .int p1] : List Value).toArray below meth c H locs 0 0 Q (F0 m 33 ls [.int z0_33, .ref (ad 0)]) := by
    intro z0_33 H locs ls h hP hD hS hl
    subst ej33_3
    obtain ⟨y4, hc5, h⟩ := gx_bind h
    refine cc_iV (As := [.int z0_33]) (rest := []) ⟨hx, hb, hml, hown, hts⟩ (k_X10_holds l D cI cZ ad u z0_33 hc5) (cwV 1 hts (gwV mw_976 mw_978 mw_24 mw_59 mw_979) rfl rfl rfl (by decide +kernel) ⟨Nat.le_of_ble_eq_true rfl, Nat.le_of_ble_eq_true rfl⟩) hK hP hD hS hA hZ (ci := 10) (q0 := 0) rfl rfl rfl hl.1 rfl (Nat.le_of_ble_eq_true rfl) dX10_stop_33 ⟨Nat.zero_le _, Nat.zero_le _⟩ (fun H locs hP hD hS => ?_)
    refine lv_if_eq (tgt := 66) hx hb dX10_stop_36 (by decide) (fun c6 => ?_) (fun c6 => ?_)
    · replace h := gx_t c6 h
      cases h
      exact cc_vret hx hb hr hQ hK hP hD hS dX10_stop_66 hlocks
    · replace h := gx_f c6 h
      refine lv_aload_n hx hb dX10_stop_39 rfl (lv_at hl 0 rfl) ?_
      refine va_get (D := D) (ci := 10) (v := .ref (ad 2)) (C := RX10) (T := TX10) (N := 32) hx hb hts iX10 hown hK hP 0 rfl rfl 7 (by decide) hf13 (fun _ h9 => h9) rfl dX10_stop_40 ?_
      refine lv_iconst (v := 4) hx hb dX10_stop_43 (by decide) ?_
      refine lv_iload_n hx hb dX10_stop_44 rfl (lv_at hl 1 rfl) ?_
      refine lv_imul hx hb dX10_stop_45 ?_
      refine lv_iload_n hx hb dX10_stop_46 rfl (lv_at hl 2 rfl) ?_
      refine lv_iadd hx hb dX10_stop_47 ?_
      refine lv_iconst (v := 1) hx hb dX10_stop_48 (by decide) ?_
      obtain ⟨b7, h⟩ := gx_in h
      refine va_zast (D := D) hx hb hK hP hD hS 2 1 rfl rfl b7 dX10_stop_49 (fun H locs hP hD hS => ?_)
      obtain ⟨u8, eu8, h⟩ := gx_let h
      replace hP : va_P D vwCl (wM cI cZ ad u8) H := by rw [← eu8]; exact hP
      replace hD : va_D A (wM cI cZ ad u8) := by rw [← eu8]; exact hD
      refine lv_iload_n hx hb dX10_stop_50 rfl (lv_at hl 2 rfl) ?_
      refine lv_if_ne (tgt := 66) hx hb dX10_stop_51 (by decide) (fun c9 => ?_) (fun c9 => ?_)
      · replace h := gx_f c9 h
        cases h
        exact cc_vret hx hb hr hQ hK hP hD hS dX10_stop_66 hlocks
      · replace h := gx_t c9 h
        refine lv_aload_n hx hb dX10_stop_54 rfl (lv_at hl 0 rfl) ?_
        refine va_get (D := D) (ci := 10) (v := .ref (ad 7)) (C := RX10) (T := TX10) (N := 32) hx hb hts iX10 hown hK hP 0 rfl rfl 12 (by decide) hf29 (fun _ h9 => h9) rfl dX10_stop_55 ?_
        refine lv_iload_n hx hb dX10_stop_58 rfl (lv_at hl 1 rfl) ?_
        refine lv_iconst (v := 0) hx hb dX10_stop_59 (by decide) ?_
        obtain ⟨b10, h⟩ := gx_in h
        refine va_zast (D := D) hx hb hK hP hD hS 7 1 rfl rfl b10 dX10_stop_60 (fun H locs hP hD hS => ?_)
        obtain ⟨u11, eu11, h⟩ := gx_let h
        replace hP : va_P D vwCl (wM cI cZ ad u11) H := by rw [← eu11]; exact hP
        replace hD : va_D A (wM cI cZ ad u11) := by rw [← eu11]; exact hD
        refine lv_aload_n hx hb dX10_stop_61 rfl (lv_at hl 0 rfl) ?_
        obtain ⟨y12, hc13, h⟩ := gx_bind h
        refine cc_iV (As := []) (rest := []) ⟨hx, hb, hml, hown, hts⟩ (k_X10_shuts l D cI cZ ad u11 hc13) (cwV 0 hts (gwV mw_1090 mw_1092 mw_38 mw_59 mw_1093) rfl rfl rfl (by decide +kernel) ⟨Nat.le_of_ble_eq_true rfl, Nat.le_of_ble_eq_true rfl⟩) hK hP hD hS hA hZ (ci := 10) (q0 := 0) rfl rfl rfl hl.1 rfl (Nat.le_of_ble_eq_true rfl) dX10_stop_62 ⟨Nat.zero_le _, Nat.zero_le _⟩ (fun H locs hP hD hS => ?_)
        refine lv_pop hx hb dX10_stop_65 rfl ?_
        cases h
        exact cc_vret hx hb hr hQ hK hP hD hS dX10_stop_66 hlocks
  refine lv_if_ne (tgt := 15) hx hb dX10_stop_8 (by decide) (fun c14 => ?_) (fun c14 => ?_)
  · replace h := gx_f c14 h
    refine lv_aload_n hx hb dX10_stop_15 rfl (lv_at hl 1 rfl) ?_
    refine va_get (D := D) (ci := 10) (v := .ref (ad 2)) (C := RX10) (T := TX10) (N := 32) hx hb hts iX10 hown hK hP 0 rfl rfl 7 (by decide) hf13 (fun _ h9 => h9) rfl dX10_stop_16 ?_
    refine lv_iconst (v := 4) hx hb dX10_stop_19 (by decide) ?_
    refine lv_iload_n hx hb dX10_stop_20 rfl (lv_at hl 2 rfl) ?_
    refine lv_imul hx hb dX10_stop_21 ?_
    refine lv_iload_n hx hb dX10_stop_22 rfl (lv_at hl 3 rfl) ?_
    refine lv_iadd hx hb dX10_stop_23 ?_
    obtain ⟨b15, h⟩ := gx_in h
    refine va_zald (D := D) hx hb hK hP 2 1 rfl rfl b15 dX10_stop_24 ?_
    refine lv_if_eq (tgt := 32) hx hb dX10_stop_25 (by decide) (fun c16 => ?_) (fun c16 => ?_)
    · replace h := gx_t c16 h
      refine lv_iconst (v := 0) hx hb dX10_stop_32 (by decide) ?_
      exact hj33_3 (0 : Int32) _ _ _ h hP hD hS (lv_sub hl [1, 2, 3] rfl)
    · replace h := gx_f c16 h
      refine lv_iconst (v := 2) hx hb dX10_stop_28 (by decide) ?_
      refine lv_goto (tgt := 33) hx hb dX10_stop_29 (by decide) ?_
      exact hj33_3 (2 : Int32) _ _ _ h hP hD hS (lv_sub hl [1, 2, 3] rfl)
  · replace h := gx_t c14 h
    refine lv_iconst (v := 1) hx hb dX10_stop_11 (by decide) ?_
    refine lv_goto (tgt := 33) hx hb dX10_stop_12 (by decide) ?_
    exact hj33_3 (1 : Int32) _ _ _ h hP hD hS (lv_sub hl [1, 2, 3] rfl)

def rX10_isReportedAt : Room := { frames := 0, cells := 0, slots := 0, locals := 0 }
set_option maxHeartbeats 4000000 in
set_option maxRecDepth 100000 in
theorem k_X10_isReportedAt (l : Launch) (D : va_G) (cI cZ : ClassId) (ad : Nat → Nat) (u : MS) (p0 : Int32) {r : Int32} (h : g_X10_isReportedAt u p0 = some r) : MI l yX10_isReportedAt (wm yX10_isReportedAt cX10_isReportedAt 4 (some .boolean)) rX10_isReportedAt D [(cI, .int), (cZ, .boolean)] (wM cI cZ ad u) (wM cI cZ ad u) [.ref (ad 0), .int p0] r := by
  intro sz
  refine Met.ofW (cc := cX10_isReportedAt) (maxL := 4) (ret := (some .boolean)) (by decide) rfl ?_
  intro p e s m args below meth c s₁ B hml hv
  obtain ⟨rfl, hsz, hP, hK, hD0, hZ⟩ := hv
  have hx := B.exec
  have hb := B.bytes
  have hr := B.returns
  have hts : ∀ w ∈ Wall, w.before _ s = true := fun w hw => atoms_spec (ws := wm yX10_isReportedAt cX10_isReportedAt 4 (some .boolean)) B.pre w (List.mem_cons_of_mem _ hw)
  have hown : s.vm.findClass RX10 = some m.cls := findClass_of_methodNamed B.named
  have hlocks := B.notSynchronized
  subst hsz
  have hD := hD0.self (sz := s.heap.size)
  generalize hAe : va_A (wM cI cZ ad u) s.heap.size = A at hD hZ ⊢
  have hA : ∀ q : Nat, s.heap.size ≤ q → A q := fun q h => by rw [← hAe]; exact Or.inr h
  have hS : va_S A s.heap s.heap [] := va_S.rf
  have hf104 := hts _ mw_890
  have hf47 := hts _ mw_891
  have hf50 := hts _ mw_892
  have hl := lv_entry ([.ref (ad 0), .int p0]) (n := 4) (Nat.le_of_ble_eq_true rfl)
  rw [lg_entry_eq]
  generalize (lg_sl ([.ref (ad 0), .int p0]) ++ List.replicate (4 - (lg_sl ([.ref (ad 0), .int p0])).length) Slot.unset).toArray = ls at hl ⊢
  replace hl : lv_has ls 4 [(0, .ref (ad 0)), (1, .int p0)] := hl
  refine w_gen (fun Q hQ => ?_)
  refine lv_iconst (v := 0) hx hb dX10_isReportedAt_0 (by decide) ?_
  refine lv_istore_n (lv' := [(2, .int (0 : Int32)), (0, .ref (ad 0)), (1, .int p0)]) hx hb dX10_isReportedAt_1 rfl hl (by decide) rfl (fun ls hl => ?_)
  refine lv_iconst (v := 0) hx hb dX10_isReportedAt_2 (by decide) ?_
  refine lv_istore_n (lv' := [(3, .int (0 : Int32)), (2, .int (0 : Int32)), (0, .ref (ad 0)), (1, .int p0)]) hx hb dX10_isReportedAt_3 rfl hl (by decide) rfl (fun ls hl => ?_)
  have hL4 : ∀ (k : Int32 → Option (Int32)) (hk : ∀ (x2_4 : Int32) (H : Heap) (locs : List Loc) (ls : Array Slot), k x2_4 = some r → va_P D vwCl (wM cI cZ ad u) H → va_D A (wM cI cZ ad u) → va_S A s.heap H locs → lv_has ls 4 [(2, .int x2_4)] → W p l e rX10_isReportedAt s m ([.ref (ad 0), .int p0] : List Value).toArray below meth c H locs 0 0 Q (F0 m 48 ls [])) (n : Nat) (x2_4 : Int32) (x3_4 : Int32) (H : Heap) (locs : List Loc) (ls : Array Slot), lp_X10_isReportedAt_4 u p0 k n x2_4 x3_4 = some r → va_P D vwCl (wM cI cZ ad u) H → va_D A (wM cI cZ ad u) → va_S A s.heap H locs → lv_has ls 4 [(0, .ref (ad 0)), (1, .int p0), (2, .int x2_4), (3, .int x3_4)] → W p l e rX10_isReportedAt s m ([.ref (ad 0), .int p0] : List Value).toArray below meth c H locs 0 0 Q (F0 m 4 ls []) := by
    intro k hk n
    induction n with
    | zero =>
      intro x2_4 x3_4 H locs ls h
      rw [lp_X10_isReportedAt_4] at h
      cases h
    | succ n ih =>
      intro x2_4 x3_4 H locs ls h hP hD hS hl
      rw [lp_X10_isReportedAt_4] at h
      refine lv_iload_n hx hb dX10_isReportedAt_4 rfl (lv_at hl 3 rfl) ?_
      refine lv_aload_n hx hb dX10_isReportedAt_5 rfl (lv_at hl 0 rfl) ?_
      refine va_get (D := D) (ci := 10) (v := .int (mI_incidents u)) (C := RX10) (T := TX10) (N := 32) hx hb hts iX10 hown hK hP 0 rfl rfl 19 (by decide) hf104 (fun _ h9 => h9) rfl dX10_isReportedAt_6 ?_
      refine lv_icmp_ge (tgt := 48) hx hb dX10_isReportedAt_9 (by decide) (fun c1 => ?_) (fun c1 => ?_)
      · replace h := gx_t c1 h
        exact hk x2_4 _ _ _ h hP hD hS (lv_sub hl [2] rfl)
      · replace h := gx_f c1 h
        refine lv_iload_n hx hb dX10_isReportedAt_12 rfl (lv_at hl 2 rfl) ?_
        obtain ⟨j41_2, ej41_2, h⟩ := gx_let h
        have hj41_2 : ∀ (z0_41 : Int32) (H : Heap) (locs : List Loc) (ls : Array Slot), j41_2 z0_41 = some r → va_P D vwCl (wM cI cZ ad u) H → va_D A (wM cI cZ ad u) → va_S A s.heap H locs → lv_has ls 4 [(0, .ref (ad 0)), (1, .int p0), (3, .int x3_4)] → W p l e rX10_isReportedAt s m ([.ref (ad 0), .int p0] : List Value).toArray below meth c H locs 0 0 Q (F0 m 41 ls [.int z0_41]) := by
          intro z0_41 H locs ls h hP hD hS hl
          subst ej41_2
          refine lv_istore_n (lv' := [(2, .int z0_41), (0, .ref (ad 0)), (1, .int p0), (3, .int x3_4)]) hx hb dX10_isReportedAt_41 rfl hl (by decide) rfl (fun ls hl => ?_)
          obtain ⟨v3, ev3, h⟩ := gx_let h
          refine lv_iinc (v := v3) (lv' := [(3, .int v3), (2, .int z0_41), (0, .ref (ad 0)), (1, .int p0)]) hx hb dX10_isReportedAt_42 hl (k := 3) rfl (by rw [← ev3]; rfl) (by decide) rfl (fun ls hl => ?_)
          refine lv_goto (tgt := 4) hx hb dX10_isReportedAt_45 (by decide) ?_
          exact ih z0_41 v3 _ _ _ h hP hD hS (lv_sub hl [2, 3, 1, 0] rfl)
        obtain ⟨j36_4, ej36_4, h⟩ := gx_let h
        have hj36_4 : ∀ (H : Heap) (locs : List Loc) (ls : Array Slot), j36_4 () = some r → va_P D vwCl (wM cI cZ ad u) H → va_D A (wM cI cZ ad u) → va_S A s.heap H locs → lv_has ls 4 [(0, .ref (ad 0)), (1, .int p0), (3, .int x3_4)] → W p l e rX10_isReportedAt s m ([.ref (ad 0), .int p0] : List Value).toArray below meth c H locs 0 0 Q (F0 m 36 ls []) := by
          intro  H locs ls h hP hD hS hl
          subst ej36_4
          refine lv_iconst (v := 1) hx hb dX10_isReportedAt_36 (by decide) ?_
          refine lv_goto (tgt := 41) hx hb dX10_isReportedAt_37 (by decide) ?_
          exact hj41_2 (1 : Int32) _ _ _ h hP hD hS (lv_sub hl [0, 1, 2] rfl)
        refine lv_if_ne (tgt := 36) hx hb dX10_isReportedAt_13 (by decide) (fun c5 => ?_) (fun c5 => ?_)
        · replace h := gx_f c5 h
          exact hj36_4 _ _ _ h hP hD hS (lv_sub hl [0, 1, 3] rfl)
        · replace h := gx_t c5 h
          refine lv_aload_n hx hb dX10_isReportedAt_16 rfl (lv_at hl 0 rfl) ?_
          refine va_get (D := D) (ci := 10) (v := .ref (ad 13)) (C := RX10) (T := TX10) (N := 32) hx hb hts iX10 hown hK hP 0 rfl rfl 20 (by decide) hf47 (fun _ h9 => h9) rfl dX10_isReportedAt_17 ?_
          refine lv_iload_n hx hb dX10_isReportedAt_20 rfl (lv_at hl 3 rfl) ?_
          obtain ⟨b6, h⟩ := gx_in h
          refine va_iald (D := D) hx hb hK hP 13 0 rfl rfl b6 dX10_isReportedAt_21 ?_
          refine lv_iload_n hx hb dX10_isReportedAt_22 rfl (lv_at hl 1 rfl) ?_
          obtain ⟨j40_7, ej40_7, h⟩ := gx_let h
          have hj40_7 : ∀ (H : Heap) (locs : List Loc) (ls : Array Slot), j40_7 () = some r → va_P D vwCl (wM cI cZ ad u) H → va_D A (wM cI cZ ad u) → va_S A s.heap H locs → lv_has ls 4 [(0, .ref (ad 0)), (1, .int p0), (3, .int x3_4)] → W p l e rX10_isReportedAt s m ([.ref (ad 0), .int p0] : List Value).toArray below meth c H locs 0 0 Q (F0 m 40 ls []) := by
            intro  H locs ls h hP hD hS hl
            subst ej40_7
            refine lv_iconst (v := 0) hx hb dX10_isReportedAt_40 (by decide) ?_
            exact hj41_2 (0 : Int32) _ _ _ h hP hD hS (lv_sub hl [0, 1, 2] rfl)
          refine lv_icmp_ne (tgt := 40) hx hb dX10_isReportedAt_23 (by decide) (fun c8 => ?_) (fun c8 => ?_)
          · replace h := gx_f c8 h
            exact hj40_7 _ _ _ h hP hD hS (lv_sub hl [0, 1, 3] rfl)
          · replace h := gx_t c8 h
            refine lv_aload_n hx hb dX10_isReportedAt_26 rfl (lv_at hl 0 rfl) ?_
            refine va_get (D := D) (ci := 10) (v := .ref (ad 14)) (C := RX10) (T := TX10) (N := 32) hx hb hts iX10 hown hK hP 0 rfl rfl 21 (by decide) hf50 (fun _ h9 => h9) rfl dX10_isReportedAt_27 ?_
            refine lv_iload_n hx hb dX10_isReportedAt_30 rfl (lv_at hl 3 rfl) ?_
            obtain ⟨b9, h⟩ := gx_in h
            refine va_iald (D := D) hx hb hK hP 14 0 rfl rfl b9 dX10_isReportedAt_31 ?_
            refine lv_iconst (v := 2) hx hb dX10_isReportedAt_32 (by decide) ?_
            refine lv_icmp_eq (tgt := 40) hx hb dX10_isReportedAt_33 (by decide) (fun c10 => ?_) (fun c10 => ?_)
            · replace h := gx_t c10 h
              exact hj40_7 _ _ _ h hP hD hS (lv_sub hl [0, 1, 3] rfl)
            · replace h := gx_f c10 h
              exact hj36_4 _ _ _ h hP hD hS (lv_sub hl [0, 1, 3] rfl)
  refine hL4 _ (fun x2_4 H locs ls h hP hD hS hl => ?_) FU (0 : Int32) (0 : Int32) _ _ _ h hP hD hS (lv_sub hl [2, 3, 1, 0] rfl)
  refine lv_iload_n hx hb dX10_isReportedAt_48 rfl (lv_at hl 0 rfl) ?_
  obtain ⟨bo, h⟩ := gx_bo h
  cases h
  exact cc_ret hx hb hr bo hQ hK hP hD hS rfl dX10_isReportedAt_49 hlocks

def rX10_report : Room := { frames := 3, cells := 0, slots := 0, locals := 63 }
set_option maxHeartbeats 4000000 in
set_option maxRecDepth 100000 in
theorem k_X10_report (l : Launch) (D : va_G) (cI cZ : ClassId) (ad : Nat → Nat) (u : MS) (p0 : Int32) (p1 : Int32) {r : Int32} {w' : MS} (h : g_X10_report u p0 p1 = some (r, w')) : MI l yX10_report (wm yX10_report cX10_report 5 (some .int)) rX10_report D [(cI, .int), (cZ, .boolean)] (wM cI cZ ad u) (wM cI cZ ad w') [.ref (ad 0), .int p0, .int p1] r := by
  intro sz
  refine Met.ofW (cc := cX10_report) (maxL := 5) (ret := (some .int)) (by decide) rfl ?_
  intro p e s m args below meth c s₁ B hml hv
  obtain ⟨rfl, hsz, hP, hK, hD0, hZ⟩ := hv
  have hx := B.exec
  have hb := B.bytes
  have hr := B.returns
  have hts : ∀ w ∈ Wall, w.before _ s = true := fun w hw => atoms_spec (ws := wm yX10_report cX10_report 5 (some .int)) B.pre w (List.mem_cons_of_mem _ hw)
  have hown : s.vm.findClass RX10 = some m.cls := findClass_of_methodNamed B.named
  have hlocks := B.notSynchronized
  subst hsz
  have hD := hD0.self (sz := s.heap.size)
  generalize hAe : va_A (wM cI cZ ad u) s.heap.size = A at hD hZ ⊢
  have hA : ∀ q : Nat, s.heap.size ≤ q → A q := fun q h => by rw [← hAe]; exact Or.inr h
  have hS : va_S A s.heap s.heap [] := va_S.rf
  have hf47 := hts _ mw_891
  have hf104 := hts _ mw_890
  have hf50 := hts _ mw_892
  have hl := lv_entry ([.ref (ad 0), .int p0, .int p1]) (n := 5) (Nat.le_of_ble_eq_true rfl)
  rw [lg_entry_eq]
  generalize (lg_sl ([.ref (ad 0), .int p0, .int p1]) ++ List.replicate (5 - (lg_sl ([.ref (ad 0), .int p0, .int p1])).length) Slot.unset).toArray = ls at hl ⊢
  replace hl : lv_has ls 5 [(0, .ref (ad 0)), (1, .int p0), (2, .int p1)] := hl
  refine w_gen (fun Q hQ => ?_)
  refine lv_iload_n hx hb dX10_report_0 rfl (lv_at hl 1 rfl) ?_
  refine lv_iload_n hx hb dX10_report_1 rfl (lv_at hl 2 rfl) ?_
  obtain ⟨y1, hc2, h⟩ := gx_bind h
  refine cc_iS (As := [.int p0, .int p1]) (rest := []) ⟨hx, hb, hml, hown, hts⟩ (k_X10_isPlace l D cI cZ ad u p0 p1 hc2) (va_cwS 2 hts (gwS mw_1036 mw_1037 mw_59 mw_1038) rfl rfl rfl (by decide +kernel) ⟨Nat.le_of_ble_eq_true rfl, Nat.le_of_ble_eq_true rfl⟩) hK hP hD hS hA hZ rfl hl.1 rfl (Nat.le_of_ble_eq_true rfl) dX10_report_2 ⟨Nat.zero_le _, Nat.zero_le _⟩ (fun H locs hP hD hS => ?_)
  refine lv_istore_n (lv' := [(3, .int y1), (0, .ref (ad 0)), (1, .int p0), (2, .int p1)]) hx hb dX10_report_5 rfl hl (by decide) rfl (fun ls hl => ?_)
  refine lv_iconst (v := 4) hx hb dX10_report_6 (by decide) ?_
  refine lv_iload_n hx hb dX10_report_7 rfl (lv_at hl 2 rfl) ?_
  refine lv_imul hx hb dX10_report_8 ?_
  refine lv_iload_n hx hb dX10_report_9 rfl (lv_at hl 3 rfl) ?_
  refine lv_iadd hx hb dX10_report_10 ?_
  obtain ⟨v3, ev3, h⟩ := gx_let h
  refine lv_topn ev3 ?_
  refine lv_istore (lv' := [(4, .int v3), (3, .int y1), (0, .ref (ad 0)), (1, .int p0), (2, .int p1)]) hx hb dX10_report_11 hl (by decide) rfl (fun ls hl => ?_)
  refine lv_aload_n hx hb dX10_report_13 rfl (lv_at hl 2 rfl) ?_
  refine lv_iload_n hx hb dX10_report_14 rfl (lv_at hl 1 rfl) ?_
  obtain ⟨j53_4, ej53_4, h⟩ := gx_let h
  have hj53_4 : ∀ (z0_53 : Int32) (H : Heap) (locs : List Loc) (ls : Array Slot), j53_4 z0_53 = some (r, w') → va_P D vwCl (wM cI cZ ad u) H → va_D A (wM cI cZ ad u) → va_S A s.heap H locs → lv_has ls 5 [(0, .ref (ad 0)), (4, .int v3)] → W p l e rX10_report s m ([.ref (ad 0), .int p0, .int p1] : List Value).toArray below meth c H locs 0 0 Q (F0 m 53 ls [.int z0_53, .ref (ad 0)]) := by
    intro z0_53 H locs ls h hP hD hS hl
    subst ej53_4
    obtain ⟨y5, hc6, h⟩ := gx_bind h
    refine cc_iV (As := [.int z0_53]) (rest := []) ⟨hx, hb, hml, hown, hts⟩ (k_X10_holds l D cI cZ ad u z0_53 hc6) (cwV 1 hts (gwV mw_976 mw_978 mw_24 mw_59 mw_979) rfl rfl rfl (by decide +kernel) ⟨Nat.le_of_ble_eq_true rfl, Nat.le_of_ble_eq_true rfl⟩) hK hP hD hS hA hZ (ci := 10) (q0 := 0) rfl rfl rfl hl.1 rfl (Nat.le_of_ble_eq_true rfl) dX10_report_53 ⟨Nat.zero_le _, Nat.zero_le _⟩ (fun H locs hP hD hS => ?_)
    refine lv_if_ne (tgt := 61) hx hb dX10_report_56 (by decide) (fun c7 => ?_) (fun c7 => ?_)
    · replace h := gx_f c7 h
      refine lv_aload_n hx hb dX10_report_61 rfl (lv_at hl 0 rfl) ?_
      refine va_get (D := D) (ci := 10) (v := .ref (ad 13)) (C := RX10) (T := TX10) (N := 32) hx hb hts iX10 hown hK hP 0 rfl rfl 20 (by decide) hf47 (fun _ h9 => h9) rfl dX10_report_62 ?_
      refine lv_aload_n hx hb dX10_report_65 rfl (lv_at hl 0 rfl) ?_
      refine va_get (D := D) (ci := 10) (v := .int (mI_incidents y5.2)) (C := RX10) (T := TX10) (N := 32) hx hb hts iX10 hown hK hP 0 rfl rfl 19 (by decide) hf104 (fun _ h9 => h9) rfl dX10_report_66 ?_
      refine lv_iload hx hb dX10_report_69 (lv_at hl 1 rfl) ?_
      obtain ⟨b8, h⟩ := gx_in h
      refine va_iast (D := D) hx hb hK hP hD hS 13 0 rfl rfl b8 dX10_report_71 (fun H locs hP hD hS => ?_)
      obtain ⟨u9, eu9, h⟩ := gx_let h
      replace hP : va_P D vwCl (wM cI cZ ad u9) H := by rw [← eu9]; exact hP
      replace hD : va_D A (wM cI cZ ad u9) := by rw [← eu9]; exact hD
      refine lv_aload_n hx hb dX10_report_72 rfl (lv_at hl 0 rfl) ?_
      refine va_get (D := D) (ci := 10) (v := .ref (ad 14)) (C := RX10) (T := TX10) (N := 32) hx hb hts iX10 hown hK hP 0 rfl rfl 21 (by decide) hf50 (fun _ h9 => h9) rfl dX10_report_73 ?_
      refine lv_aload_n hx hb dX10_report_76 rfl (lv_at hl 0 rfl) ?_
      refine va_get (D := D) (ci := 10) (v := .int (mI_incidents u9)) (C := RX10) (T := TX10) (N := 32) hx hb hts iX10 hown hK hP 0 rfl rfl 19 (by decide) hf104 (fun _ h9 => h9) rfl dX10_report_77 ?_
      refine lv_iconst (v := 0) hx hb dX10_report_80 (by decide) ?_
      obtain ⟨b10, h⟩ := gx_in h
      refine va_iast (D := D) hx hb hK hP hD hS 14 0 rfl rfl b10 dX10_report_81 (fun H locs hP hD hS => ?_)
      obtain ⟨u11, eu11, h⟩ := gx_let h
      replace hP : va_P D vwCl (wM cI cZ ad u11) H := by rw [← eu11]; exact hP
      replace hD : va_D A (wM cI cZ ad u11) := by rw [← eu11]; exact hD
      refine lv_aload_n hx hb dX10_report_82 rfl (lv_at hl 0 rfl) ?_
      refine lv_dup hx hb dX10_report_83 rfl ?_
      refine va_get (D := D) (ci := 10) (v := .int (mI_incidents u11)) (C := RX10) (T := TX10) (N := 32) hx hb hts iX10 hown hK hP 0 rfl rfl 19 (by decide) hf104 (fun _ h9 => h9) rfl dX10_report_84 ?_
      refine lv_iconst (v := 1) hx hb dX10_report_87 (by decide) ?_
      refine lv_iadd hx hb dX10_report_88 ?_
      refine va_put (D := D) (ci := 10) (v := .int ((mI_incidents u11) + (1 : Int32))) (ty := .int) (C := RX10) (T := TX10) (N := 32) hx hb hts iX10 tyX10 tyX10_ok nmX10 hown hK hP hD hS 0 rfl rfl 19 (by decide) hf104 (fun _ h9 => h9) rfl (by decide +kernel) rfl rfl (Nat.le_of_ble_eq_true rfl) dX10_report_89 (fun H locs hP hD hS => ?_)
      obtain ⟨u12, eu12, h⟩ := gx_let h
      replace hP : va_P D vwCl (wM cI cZ ad u12) H := by rw [← eu12]; exact hP
      replace hD : va_D A (wM cI cZ ad u12) := by rw [← eu12]; exact hD
      refine lv_aload_n hx hb dX10_report_92 rfl (lv_at hl 0 rfl) ?_
      refine va_get (D := D) (ci := 10) (v := .int (mI_incidents u12)) (C := RX10) (T := TX10) (N := 32) hx hb hts iX10 hown hK hP 0 rfl rfl 19 (by decide) hf104 (fun _ h9 => h9) rfl dX10_report_93 ?_
      refine lv_iconst (v := 1) hx hb dX10_report_96 (by decide) ?_
      refine lv_isub hx hb dX10_report_97 ?_
      cases h
      exact cc_ret hx hb hr rfl hQ hK hP hD hS rfl dX10_report_98 hlocks
    · replace h := gx_t c7 h
      refine lv_iconst (v := 0) hx hb dX10_report_59 (by decide) ?_
      cases h
      exact cc_ret hx hb hr rfl hQ hK hP hD hS rfl dX10_report_60 hlocks
  refine lv_if_ne (tgt := 22) hx hb dX10_report_15 (by decide) (fun c13 => ?_) (fun c13 => ?_)
  · replace h := gx_f c13 h
    refine lv_aload_n hx hb dX10_report_22 rfl (lv_at hl 2 rfl) ?_
    refine va_get (D := D) (ci := 10) (v := .int (mI_incidents u)) (C := RX10) (T := TX10) (N := 32) hx hb hts iX10 hown hK hP 0 rfl rfl 19 (by decide) hf104 (fun _ h9 => h9) rfl dX10_report_23 ?_
    refine lv_bipush (v := 12) hx hb dX10_report_26 (by decide) ?_
    obtain ⟨j48_14, ej48_14, h⟩ := gx_let h
    have hj48_14 : ∀ (H : Heap) (locs : List Loc) (ls : Array Slot), j48_14 () = some (r, w') → va_P D vwCl (wM cI cZ ad u) H → va_D A (wM cI cZ ad u) → va_S A s.heap H locs → lv_has ls 5 [(0, .ref (ad 0)), (4, .int v3)] → W p l e rX10_report s m ([.ref (ad 0), .int p0, .int p1] : List Value).toArray below meth c H locs 0 0 Q (F0 m 48 ls [.ref (ad 0)]) := by
      intro  H locs ls h hP hD hS hl
      subst ej48_14
      refine lv_iconst (v := 2) hx hb dX10_report_48 (by decide) ?_
      refine lv_goto (tgt := 53) hx hb dX10_report_49 (by decide) ?_
      exact hj53_4 (2 : Int32) _ _ _ h hP hD hS (lv_sub hl [0, 1] rfl)
    refine lv_icmp_eq (tgt := 48) hx hb dX10_report_28 (by decide) (fun c15 => ?_) (fun c15 => ?_)
    · replace h := gx_t c15 h
      exact hj48_14 _ _ _ h hP hD hS (lv_sub hl [2, 0] rfl)
    · replace h := gx_f c15 h
      refine lv_iload_n hx hb dX10_report_31 rfl (lv_at hl 3 rfl) ?_
      obtain ⟨j39_16, ej39_16, h⟩ := gx_let h
      have hj39_16 : ∀ (H : Heap) (locs : List Loc) (ls : Array Slot), j39_16 () = some (r, w') → va_P D vwCl (wM cI cZ ad u) H → va_D A (wM cI cZ ad u) → va_S A s.heap H locs → lv_has ls 5 [(0, .ref (ad 0)), (4, .int v3)] → W p l e rX10_report s m ([.ref (ad 0), .int p0, .int p1] : List Value).toArray below meth c H locs 0 0 Q (F0 m 39 ls [.ref (ad 0)]) := by
        intro  H locs ls h hP hD hS hl
        subst ej39_16
        refine lv_aload_n hx hb dX10_report_39 rfl (lv_at hl 0 rfl) ?_
        refine lv_iload hx hb dX10_report_40 (lv_at hl 1 rfl) ?_
        obtain ⟨y17, hc18, h⟩ := gx_bind h
        refine cc_iV (As := [.int v3]) (rest := [.ref (ad 0)]) ⟨hx, hb, hml, hown, hts⟩ (k_X10_isReportedAt l D cI cZ ad u v3 hc18) (cwV 1 hts (gwV mw_1102 mw_1104 mw_39 mw_59 mw_1105) rfl rfl rfl (by decide +kernel) ⟨Nat.le_of_ble_eq_true rfl, Nat.le_of_ble_eq_true rfl⟩) hK hP hD hS hA hZ (ci := 10) (q0 := 0) rfl rfl rfl hl.1 rfl (Nat.le_of_ble_eq_true rfl) dX10_report_42 ⟨Nat.zero_le _, Nat.zero_le _⟩ (fun H locs hP hD hS => ?_)
        refine lv_if_eq (tgt := 52) hx hb dX10_report_45 (by decide) (fun c19 => ?_) (fun c19 => ?_)
        · replace h := gx_t c19 h
          refine lv_iconst (v := 0) hx hb dX10_report_52 (by decide) ?_
          exact hj53_4 (0 : Int32) _ _ _ h hP hD hS (lv_sub hl [0, 1] rfl)
        · replace h := gx_f c19 h
          exact hj48_14 _ _ _ h hP hD hS (lv_sub hl [0, 1] rfl)
      refine lv_if_ne (tgt := 39) hx hb dX10_report_32 (by decide) (fun c20 => ?_) (fun c20 => ?_)
      · replace h := gx_f c20 h
        exact hj39_16 _ _ _ h hP hD hS (lv_sub hl [2, 0] rfl)
      · replace h := gx_t c20 h
        refine lv_iload_n hx hb dX10_report_35 rfl (lv_at hl 4 rfl) ?_
        refine lv_if_gt (tgt := 48) hx hb dX10_report_36 (by decide) (fun c21 => ?_) (fun c21 => ?_)
        · replace h := gx_t c21 h
          exact hj48_14 _ _ _ h hP hD hS (lv_sub hl [2, 0] rfl)
        · replace h := gx_f c21 h
          exact hj39_16 _ _ _ h hP hD hS (lv_sub hl [2, 0] rfl)
  · replace h := gx_t c13 h
    refine lv_iconst (v := 1) hx hb dX10_report_18 (by decide) ?_
    refine lv_goto (tgt := 53) hx hb dX10_report_19 (by decide) ?_
    exact hj53_4 (1 : Int32) _ _ _ h hP hD hS (lv_sub hl [2, 0] rfl)

def rX10_isIncident : Room := { frames := 1, cells := 0, slots := 0, locals := 22 }
set_option maxHeartbeats 4000000 in
set_option maxRecDepth 100000 in
theorem k_X10_isIncident (l : Launch) (D : va_G) (cI cZ : ClassId) (ad : Nat → Nat) (u : MS) (p0 : Int32) {r : Int32} (h : g_X10_isIncident u p0 = some r) : MI l yX10_isIncident (wm yX10_isIncident cX10_isIncident 2 (some .boolean)) rX10_isIncident D [(cI, .int), (cZ, .boolean)] (wM cI cZ ad u) (wM cI cZ ad u) [.ref (ad 0), .int p0] r := by
  intro sz
  refine Met.ofW (cc := cX10_isIncident) (maxL := 2) (ret := (some .boolean)) (by decide) rfl ?_
  intro p e s m args below meth c s₁ B hml hv
  obtain ⟨rfl, hsz, hP, hK, hD0, hZ⟩ := hv
  have hx := B.exec
  have hb := B.bytes
  have hr := B.returns
  have hts : ∀ w ∈ Wall, w.before _ s = true := fun w hw => atoms_spec (ws := wm yX10_isIncident cX10_isIncident 2 (some .boolean)) B.pre w (List.mem_cons_of_mem _ hw)
  have hown : s.vm.findClass RX10 = some m.cls := findClass_of_methodNamed B.named
  have hlocks := B.notSynchronized
  subst hsz
  have hD := hD0.self (sz := s.heap.size)
  generalize hAe : va_A (wM cI cZ ad u) s.heap.size = A at hD hZ ⊢
  have hA : ∀ q : Nat, s.heap.size ≤ q → A q := fun q h => by rw [← hAe]; exact Or.inr h
  have hS : va_S A s.heap s.heap [] := va_S.rf
  have hf104 := hts _ mw_890
  have hl := lv_entry ([.ref (ad 0), .int p0]) (n := 2) (Nat.le_of_ble_eq_true rfl)
  rw [lg_entry_eq]
  generalize (lg_sl ([.ref (ad 0), .int p0]) ++ List.replicate (2 - (lg_sl ([.ref (ad 0), .int p0])).length) Slot.unset).toArray = ls at hl ⊢
  replace hl : lv_has ls 2 [(0, .ref (ad 0)), (1, .int p0)] := hl
  refine w_gen (fun Q hQ => ?_)
  refine lv_iload_n hx hb dX10_isIncident_0 rfl (lv_at hl 1 rfl) ?_
  refine lv_iconst (v := 0) hx hb dX10_isIncident_1 (by decide) ?_
  refine lv_aload_n hx hb dX10_isIncident_2 rfl (lv_at hl 0 rfl) ?_
  refine va_get (D := D) (ci := 10) (v := .int (mI_incidents u)) (C := RX10) (T := TX10) (N := 32) hx hb hts iX10 hown hK hP 0 rfl rfl 19 (by decide) hf104 (fun _ h9 => h9) rfl dX10_isIncident_3 ?_
  refine lv_iconst (v := 1) hx hb dX10_isIncident_6 (by decide) ?_
  refine lv_isub hx hb dX10_isIncident_7 ?_
  obtain ⟨y1, hc2, h⟩ := gx_bind h
  refine cc_iS (As := [.int p0, .int (0 : Int32), .int ((mI_incidents u) - (1 : Int32))]) (rest := []) ⟨hx, hb, hml, hown, hts⟩ (k_X10_isIn l D cI cZ ad u p0 (0 : Int32) ((mI_incidents u) - (1 : Int32)) hc2) (va_cwS 3 hts (gwS mw_860 mw_861 mw_59 mw_862) rfl rfl rfl (by decide +kernel) ⟨Nat.le_of_ble_eq_true rfl, Nat.le_of_ble_eq_true rfl⟩) hK hP hD hS hA hZ rfl hl.1 rfl (Nat.le_of_ble_eq_true rfl) dX10_isIncident_8 ⟨Nat.zero_le _, Nat.zero_le _⟩ (fun H locs hP hD hS => ?_)
  obtain ⟨bo, h⟩ := gx_bo h
  cases h
  exact cc_ret hx hb hr bo hQ hK hP hD hS rfl dX10_isIncident_11 hlocks

def rX10_confirm : Room := { frames := 2, cells := 0, slots := 0, locals := 43 }
set_option maxHeartbeats 4000000 in
set_option maxRecDepth 100000 in
theorem k_X10_confirm (l : Launch) (D : va_G) (cI cZ : ClassId) (ad : Nat → Nat) (u : MS) (p0 : Int32) {r : Int32} {w' : MS} (h : g_X10_confirm u p0 = some (r, w')) : MI l yX10_confirm (wm yX10_confirm cX10_confirm 3 (some .int)) rX10_confirm D [(cI, .int), (cZ, .boolean)] (wM cI cZ ad u) (wM cI cZ ad w') [.ref (ad 0), .int p0] r := by
  intro sz
  refine Met.ofW (cc := cX10_confirm) (maxL := 3) (ret := (some .int)) (by decide) rfl ?_
  intro p e s m args below meth c s₁ B hml hv
  obtain ⟨rfl, hsz, hP, hK, hD0, hZ⟩ := hv
  have hx := B.exec
  have hb := B.bytes
  have hr := B.returns
  have hts : ∀ w ∈ Wall, w.before _ s = true := fun w hw => atoms_spec (ws := wm yX10_confirm cX10_confirm 3 (some .int)) B.pre w (List.mem_cons_of_mem _ hw)
  have hown : s.vm.findClass RX10 = some m.cls := findClass_of_methodNamed B.named
  have hlocks := B.notSynchronized
  subst hsz
  have hD := hD0.self (sz := s.heap.size)
  generalize hAe : va_A (wM cI cZ ad u) s.heap.size = A at hD hZ ⊢
  have hA : ∀ q : Nat, s.heap.size ≤ q → A q := fun q h => by rw [← hAe]; exact Or.inr h
  have hS : va_S A s.heap s.heap [] := va_S.rf
  have hf50 := hts _ mw_892
  have hf13 := hts _ mw_878
  have hf47 := hts _ mw_891
  have hl := lv_entry ([.ref (ad 0), .int p0]) (n := 3) (Nat.le_of_ble_eq_true rfl)
  rw [lg_entry_eq]
  generalize (lg_sl ([.ref (ad 0), .int p0]) ++ List.replicate (3 - (lg_sl ([.ref (ad 0), .int p0])).length) Slot.unset).toArray = ls at hl ⊢
  replace hl : lv_has ls 3 [(0, .ref (ad 0)), (1, .int p0)] := hl
  refine w_gen (fun Q hQ => ?_)
  refine lv_aload_n hx hb dX10_confirm_0 rfl (lv_at hl 0 rfl) ?_
  refine lv_iload_n hx hb dX10_confirm_1 rfl (lv_at hl 1 rfl) ?_
  obtain ⟨y1, hc2, h⟩ := gx_bind h
  refine cc_iV (As := [.int p0]) (rest := []) ⟨hx, hb, hml, hown, hts⟩ (k_X10_isIncident l D cI cZ ad u p0 hc2) (cwV 1 hts (gwV mw_1110 mw_1112 mw_40 mw_59 mw_1113) rfl rfl rfl (by decide +kernel) ⟨Nat.le_of_ble_eq_true rfl, Nat.le_of_ble_eq_true rfl⟩) hK hP hD hS hA hZ (ci := 10) (q0 := 0) rfl rfl rfl hl.1 rfl (Nat.le_of_ble_eq_true rfl) dX10_confirm_2 ⟨Nat.zero_le _, Nat.zero_le _⟩ (fun H locs hP hD hS => ?_)
  refine lv_istore_n (lv' := [(2, .int y1), (0, .ref (ad 0)), (1, .int p0)]) hx hb dX10_confirm_5 rfl hl (by decide) rfl (fun ls hl => ?_)
  refine lv_aload_n hx hb dX10_confirm_6 rfl (lv_at hl 1 rfl) ?_
  refine lv_iload_n hx hb dX10_confirm_7 rfl (lv_at hl 0 rfl) ?_
  obtain ⟨j29_3, ej29_3, h⟩ := gx_let h
  have hj29_3 : ∀ (z0_29 : Int32) (H : Heap) (locs : List Loc) (ls : Array Slot), j29_3 z0_29 = some (r, w') → va_P D vwCl (wM cI cZ ad u) H → va_D A (wM cI cZ ad u) → va_S A s.heap H locs → lv_has ls 3 [(0, .ref (ad 0)), (1, .int p0)] → W p l e rX10_confirm s m ([.ref (ad 0), .int p0] : List Value).toArray below meth c H locs 0 0 Q (F0 m 29 ls [.int z0_29, .ref (ad 0)]) := by
    intro z0_29 H locs ls h hP hD hS hl
    subst ej29_3
    obtain ⟨y4, hc5, h⟩ := gx_bind h
    refine cc_iV (As := [.int z0_29]) (rest := []) ⟨hx, hb, hml, hown, hts⟩ (k_X10_holds l D cI cZ ad u z0_29 hc5) (cwV 1 hts (gwV mw_976 mw_978 mw_24 mw_59 mw_979) rfl rfl rfl (by decide +kernel) ⟨Nat.le_of_ble_eq_true rfl, Nat.le_of_ble_eq_true rfl⟩) hK hP hD hS hA hZ (ci := 10) (q0 := 0) rfl rfl rfl hl.1 rfl (Nat.le_of_ble_eq_true rfl) dX10_confirm_29 ⟨Nat.zero_le _, Nat.zero_le _⟩ (fun H locs hP hD hS => ?_)
    refine lv_if_ne (tgt := 37) hx hb dX10_confirm_32 (by decide) (fun c6 => ?_) (fun c6 => ?_)
    · replace h := gx_f c6 h
      refine lv_aload_n hx hb dX10_confirm_37 rfl (lv_at hl 0 rfl) ?_
      refine va_get (D := D) (ci := 10) (v := .ref (ad 14)) (C := RX10) (T := TX10) (N := 32) hx hb hts iX10 hown hK hP 0 rfl rfl 21 (by decide) hf50 (fun _ h9 => h9) rfl dX10_confirm_38 ?_
      refine lv_iload_n hx hb dX10_confirm_41 rfl (lv_at hl 1 rfl) ?_
      refine lv_aload_n hx hb dX10_confirm_42 rfl (lv_at hl 0 rfl) ?_
      refine va_get (D := D) (ci := 10) (v := .ref (ad 2)) (C := RX10) (T := TX10) (N := 32) hx hb hts iX10 hown hK hP 0 rfl rfl 7 (by decide) hf13 (fun _ h9 => h9) rfl dX10_confirm_43 ?_
      refine lv_aload_n hx hb dX10_confirm_46 rfl (lv_at hl 0 rfl) ?_
      refine va_get (D := D) (ci := 10) (v := .ref (ad 13)) (C := RX10) (T := TX10) (N := 32) hx hb hts iX10 hown hK hP 0 rfl rfl 20 (by decide) hf47 (fun _ h9 => h9) rfl dX10_confirm_47 ?_
      refine lv_iload_n hx hb dX10_confirm_50 rfl (lv_at hl 1 rfl) ?_
      obtain ⟨b7, h⟩ := gx_in h
      refine va_iald (D := D) hx hb hK hP 13 0 rfl rfl b7 dX10_confirm_51 ?_
      obtain ⟨b8, h⟩ := gx_in h
      refine va_zald (D := D) hx hb hK hP 2 1 rfl rfl b8 dX10_confirm_52 ?_
      obtain ⟨j61_9, ej61_9, h⟩ := gx_let h
      have hj61_9 : ∀ (z0_61 : Int32) (H : Heap) (locs : List Loc) (ls : Array Slot), j61_9 z0_61 = some (r, w') → va_P D vwCl (wM cI cZ ad y4.2) H → va_D A (wM cI cZ ad y4.2) → va_S A s.heap H locs → lv_has ls 3 [(0, .ref (ad 0)), (1, .int p0)] → W p l e rX10_confirm s m ([.ref (ad 0), .int p0] : List Value).toArray below meth c H locs 0 0 Q (F0 m 61 ls [.int z0_61, .int p0, .ref (ad 14)]) := by
        intro z0_61 H locs ls h hP hD hS hl
        subst ej61_9
        obtain ⟨b10, h⟩ := gx_in h
        refine va_iast (D := D) hx hb hK hP hD hS 14 0 rfl rfl b10 dX10_confirm_61 (fun H locs hP hD hS => ?_)
        obtain ⟨u11, eu11, h⟩ := gx_let h
        replace hP : va_P D vwCl (wM cI cZ ad u11) H := by rw [← eu11]; exact hP
        replace hD : va_D A (wM cI cZ ad u11) := by rw [← eu11]; exact hD
        refine lv_aload_n hx hb dX10_confirm_62 rfl (lv_at hl 0 rfl) ?_
        refine va_get (D := D) (ci := 10) (v := .ref (ad 14)) (C := RX10) (T := TX10) (N := 32) hx hb hts iX10 hown hK hP 0 rfl rfl 21 (by decide) hf50 (fun _ h9 => h9) rfl dX10_confirm_63 ?_
        refine lv_iload_n hx hb dX10_confirm_66 rfl (lv_at hl 1 rfl) ?_
        obtain ⟨b12, h⟩ := gx_in h
        refine va_iald (D := D) hx hb hK hP 14 0 rfl rfl b12 dX10_confirm_67 ?_
        cases h
        exact cc_ret hx hb hr rfl hQ hK hP hD hS rfl dX10_confirm_68 hlocks
      refine lv_if_eq (tgt := 60) hx hb dX10_confirm_53 (by decide) (fun c13 => ?_) (fun c13 => ?_)
      · replace h := gx_t c13 h
        refine lv_iconst (v := 2) hx hb dX10_confirm_60 (by decide) ?_
        exact hj61_9 (2 : Int32) _ _ _ h hP hD hS (lv_sub hl [0, 1] rfl)
      · replace h := gx_f c13 h
        refine lv_iconst (v := 1) hx hb dX10_confirm_56 (by decide) ?_
        refine lv_goto (tgt := 61) hx hb dX10_confirm_57 (by decide) ?_
        exact hj61_9 (1 : Int32) _ _ _ h hP hD hS (lv_sub hl [0, 1] rfl)
    · replace h := gx_t c6 h
      refine lv_iconst (v := 0) hx hb dX10_confirm_35 (by decide) ?_
      cases h
      exact cc_ret hx hb hr rfl hQ hK hP hD hS rfl dX10_confirm_36 hlocks
  refine lv_if_ne (tgt := 15) hx hb dX10_confirm_8 (by decide) (fun c14 => ?_) (fun c14 => ?_)
  · replace h := gx_f c14 h
    refine lv_aload_n hx hb dX10_confirm_15 rfl (lv_at hl 1 rfl) ?_
    refine va_get (D := D) (ci := 10) (v := .ref (ad 14)) (C := RX10) (T := TX10) (N := 32) hx hb hts iX10 hown hK hP 0 rfl rfl 21 (by decide) hf50 (fun _ h9 => h9) rfl dX10_confirm_16 ?_
    refine lv_iload_n hx hb dX10_confirm_19 rfl (lv_at hl 2 rfl) ?_
    obtain ⟨b15, h⟩ := gx_in h
    refine va_iald (D := D) hx hb hK hP 14 0 rfl rfl b15 dX10_confirm_20 ?_
    refine lv_if_ne (tgt := 28) hx hb dX10_confirm_21 (by decide) (fun c16 => ?_) (fun c16 => ?_)
    · replace h := gx_f c16 h
      refine lv_iconst (v := 2) hx hb dX10_confirm_28 (by decide) ?_
      exact hj29_3 (2 : Int32) _ _ _ h hP hD hS (lv_sub hl [1, 2] rfl)
    · replace h := gx_t c16 h
      refine lv_iconst (v := 0) hx hb dX10_confirm_24 (by decide) ?_
      refine lv_goto (tgt := 29) hx hb dX10_confirm_25 (by decide) ?_
      exact hj29_3 (0 : Int32) _ _ _ h hP hD hS (lv_sub hl [1, 2] rfl)
  · replace h := gx_t c14 h
    refine lv_iconst (v := 1) hx hb dX10_confirm_11 (by decide) ?_
    refine lv_goto (tgt := 29) hx hb dX10_confirm_12 (by decide) ?_
    exact hj29_3 (1 : Int32) _ _ _ h hP hD hS (lv_sub hl [1, 2] rfl)

def rX10_patrolOf : Room := { frames := 0, cells := 0, slots := 0, locals := 0 }
set_option maxHeartbeats 4000000 in
set_option maxRecDepth 100000 in
theorem k_X10_patrolOf (l : Launch) (D : va_G) (cI cZ : ClassId) (ad : Nat → Nat) (u : MS) (p0 : Int32) {r : Int32} (h : g_X10_patrolOf u p0 = some r) : MI l yX10_patrolOf (wm yX10_patrolOf cX10_patrolOf 4 (some .int)) rX10_patrolOf D [(cI, .int), (cZ, .boolean)] (wM cI cZ ad u) (wM cI cZ ad u) [.ref (ad 0), .int p0] r := by
  intro sz
  refine Met.ofW (cc := cX10_patrolOf) (maxL := 4) (ret := (some .int)) (by decide) rfl ?_
  intro p e s m args below meth c s₁ B hml hv
  obtain ⟨rfl, hsz, hP, hK, hD0, hZ⟩ := hv
  have hx := B.exec
  have hb := B.bytes
  have hr := B.returns
  have hts : ∀ w ∈ Wall, w.before _ s = true := fun w hw => atoms_spec (ws := wm yX10_patrolOf cX10_patrolOf 4 (some .int)) B.pre w (List.mem_cons_of_mem _ hw)
  have hown : s.vm.findClass RX10 = some m.cls := findClass_of_methodNamed B.named
  have hlocks := B.notSynchronized
  subst hsz
  have hD := hD0.self (sz := s.heap.size)
  generalize hAe : va_A (wM cI cZ ad u) s.heap.size = A at hD hZ ⊢
  have hA : ∀ q : Nat, s.heap.size ≤ q → A q := fun q h => by rw [← hAe]; exact Or.inr h
  have hS : va_S A s.heap s.heap [] := va_S.rf
  have hf56 := hts _ mw_894
  have hl := lv_entry ([.ref (ad 0), .int p0]) (n := 4) (Nat.le_of_ble_eq_true rfl)
  rw [lg_entry_eq]
  generalize (lg_sl ([.ref (ad 0), .int p0]) ++ List.replicate (4 - (lg_sl ([.ref (ad 0), .int p0])).length) Slot.unset).toArray = ls at hl ⊢
  replace hl : lv_has ls 4 [(0, .ref (ad 0)), (1, .int p0)] := hl
  refine w_gen (fun Q hQ => ?_)
  refine lv_iconst (v := (-1)) hx hb dX10_patrolOf_0 (by decide) ?_
  refine lv_istore_n (lv' := [(2, .int (-1 : Int32)), (0, .ref (ad 0)), (1, .int p0)]) hx hb dX10_patrolOf_1 rfl hl (by decide) rfl (fun ls hl => ?_)
  refine lv_iconst (v := 0) hx hb dX10_patrolOf_2 (by decide) ?_
  refine lv_istore_n (lv' := [(3, .int (0 : Int32)), (2, .int (-1 : Int32)), (0, .ref (ad 0)), (1, .int p0)]) hx hb dX10_patrolOf_3 rfl hl (by decide) rfl (fun ls hl => ?_)
  have hL4 : ∀ (k : Int32 → Option (Int32)) (hk : ∀ (x2_4 : Int32) (H : Heap) (locs : List Loc) (ls : Array Slot), k x2_4 = some r → va_P D vwCl (wM cI cZ ad u) H → va_D A (wM cI cZ ad u) → va_S A s.heap H locs → lv_has ls 4 [(2, .int x2_4)] → W p l e rX10_patrolOf s m ([.ref (ad 0), .int p0] : List Value).toArray below meth c H locs 0 0 Q (F0 m 31 ls [])) (n : Nat) (x2_4 : Int32) (x3_4 : Int32) (H : Heap) (locs : List Loc) (ls : Array Slot), lp_X10_patrolOf_4 u p0 k n x2_4 x3_4 = some r → va_P D vwCl (wM cI cZ ad u) H → va_D A (wM cI cZ ad u) → va_S A s.heap H locs → lv_has ls 4 [(0, .ref (ad 0)), (1, .int p0), (2, .int x2_4), (3, .int x3_4)] → W p l e rX10_patrolOf s m ([.ref (ad 0), .int p0] : List Value).toArray below meth c H locs 0 0 Q (F0 m 4 ls []) := by
    intro k hk n
    induction n with
    | zero =>
      intro x2_4 x3_4 H locs ls h
      rw [lp_X10_patrolOf_4] at h
      cases h
    | succ n ih =>
      intro x2_4 x3_4 H locs ls h hP hD hS hl
      rw [lp_X10_patrolOf_4] at h
      refine lv_iload_n hx hb dX10_patrolOf_4 rfl (lv_at hl 3 rfl) ?_
      refine lv_iconst (v := 3) hx hb dX10_patrolOf_5 (by decide) ?_
      refine lv_icmp_ge (tgt := 31) hx hb dX10_patrolOf_6 (by decide) (fun c1 => ?_) (fun c1 => ?_)
      · replace h := gx_t c1 h
        exact hk x2_4 _ _ _ h hP hD hS (lv_sub hl [2] rfl)
      · replace h := gx_f c1 h
        refine lv_aload_n hx hb dX10_patrolOf_9 rfl (lv_at hl 0 rfl) ?_
        refine va_get (D := D) (ci := 10) (v := .ref (ad 16)) (C := RX10) (T := TX10) (N := 32) hx hb hts iX10 hown hK hP 0 rfl rfl 23 (by decide) hf56 (fun _ h9 => h9) rfl dX10_patrolOf_10 ?_
        refine lv_iload_n hx hb dX10_patrolOf_13 rfl (lv_at hl 3 rfl) ?_
        obtain ⟨b2, h⟩ := gx_in h
        refine va_iald (D := D) hx hb hK hP 16 0 rfl rfl b2 dX10_patrolOf_14 ?_
        refine lv_iload_n hx hb dX10_patrolOf_15 rfl (lv_at hl 1 rfl) ?_
        obtain ⟨j24_3, ej24_3, h⟩ := gx_let h
        have hj24_3 : ∀ (z0_24 : Int32) (H : Heap) (locs : List Loc) (ls : Array Slot), j24_3 z0_24 = some r → va_P D vwCl (wM cI cZ ad u) H → va_D A (wM cI cZ ad u) → va_S A s.heap H locs → lv_has ls 4 [(0, .ref (ad 0)), (1, .int p0), (3, .int x3_4)] → W p l e rX10_patrolOf s m ([.ref (ad 0), .int p0] : List Value).toArray below meth c H locs 0 0 Q (F0 m 24 ls [.int z0_24]) := by
          intro z0_24 H locs ls h hP hD hS hl
          subst ej24_3
          refine lv_istore_n (lv' := [(2, .int z0_24), (0, .ref (ad 0)), (1, .int p0), (3, .int x3_4)]) hx hb dX10_patrolOf_24 rfl hl (by decide) rfl (fun ls hl => ?_)
          obtain ⟨v4, ev4, h⟩ := gx_let h
          refine lv_iinc (v := v4) (lv' := [(3, .int v4), (2, .int z0_24), (0, .ref (ad 0)), (1, .int p0)]) hx hb dX10_patrolOf_25 hl (k := 3) rfl (by rw [← ev4]; rfl) (by decide) rfl (fun ls hl => ?_)
          refine lv_goto (tgt := 4) hx hb dX10_patrolOf_28 (by decide) ?_
          exact ih z0_24 v4 _ _ _ h hP hD hS (lv_sub hl [2, 3, 1, 0] rfl)
        refine lv_icmp_ne (tgt := 23) hx hb dX10_patrolOf_16 (by decide) (fun c5 => ?_) (fun c5 => ?_)
        · replace h := gx_f c5 h
          refine lv_iload_n hx hb dX10_patrolOf_23 rfl (lv_at hl 2 rfl) ?_
          exact hj24_3 x2_4 _ _ _ h hP hD hS (lv_sub hl [0, 1, 3] rfl)
        · replace h := gx_t c5 h
          refine lv_iload_n hx hb dX10_patrolOf_19 rfl (lv_at hl 3 rfl) ?_
          refine lv_goto (tgt := 24) hx hb dX10_patrolOf_20 (by decide) ?_
          exact hj24_3 x3_4 _ _ _ h hP hD hS (lv_sub hl [0, 1, 3] rfl)
  refine hL4 _ (fun x2_4 H locs ls h hP hD hS hl => ?_) FU (-1 : Int32) (0 : Int32) _ _ _ h hP hD hS (lv_sub hl [2, 3, 1, 0] rfl)
  refine lv_iload_n hx hb dX10_patrolOf_31 rfl (lv_at hl 0 rfl) ?_
  cases h
  exact cc_ret hx hb hr rfl hQ hK hP hD hS rfl dX10_patrolOf_32 hlocks

def rX10_incident : Room := { frames := 2, cells := 0, slots := 0, locals := 43 }
set_option maxHeartbeats 4000000 in
set_option maxRecDepth 100000 in
theorem k_X10_incident (l : Launch) (D : va_G) (cI cZ : ClassId) (ad : Nat → Nat) (u : MS) (p0 : Int32) (p1 : Int32) {r : Int32} {w' : MS} (h : g_X10_incident u p0 p1 = some (r, w')) : MI l yX10_incident (wm yX10_incident cX10_incident 4 (some .int)) rX10_incident D [(cI, .int), (cZ, .boolean)] (wM cI cZ ad u) (wM cI cZ ad w') [.ref (ad 0), .int p0, .int p1] r := by
  intro sz
  refine Met.ofW (cc := cX10_incident) (maxL := 4) (ret := (some .int)) (by decide) rfl ?_
  intro p e s m args below meth c s₁ B hml hv
  obtain ⟨rfl, hsz, hP, hK, hD0, hZ⟩ := hv
  have hx := B.exec
  have hb := B.bytes
  have hr := B.returns
  have hts : ∀ w ∈ Wall, w.before _ s = true := fun w hw => atoms_spec (ws := wm yX10_incident cX10_incident 4 (some .int)) B.pre w (List.mem_cons_of_mem _ hw)
  have hown : s.vm.findClass RX10 = some m.cls := findClass_of_methodNamed B.named
  have hlocks := B.notSynchronized
  subst hsz
  have hD := hD0.self (sz := s.heap.size)
  generalize hAe : va_A (wM cI cZ ad u) s.heap.size = A at hD hZ ⊢
  have hA : ∀ q : Nat, s.heap.size ≤ q → A q := fun q h => by rw [← hAe]; exact Or.inr h
  have hS : va_S A s.heap s.heap [] := va_S.rf
  have hf47 := hts _ mw_891
  have hf50 := hts _ mw_892
  have hl := lv_entry ([.ref (ad 0), .int p0, .int p1]) (n := 4) (Nat.le_of_ble_eq_true rfl)
  rw [lg_entry_eq]
  generalize (lg_sl ([.ref (ad 0), .int p0, .int p1]) ++ List.replicate (4 - (lg_sl ([.ref (ad 0), .int p0, .int p1])).length) Slot.unset).toArray = ls at hl ⊢
  replace hl : lv_has ls 4 [(0, .ref (ad 0)), (1, .int p0), (2, .int p1)] := hl
  refine w_gen (fun Q hQ => ?_)
  refine lv_aload_n hx hb dX10_incident_0 rfl (lv_at hl 0 rfl) ?_
  refine lv_aload_n hx hb dX10_incident_1 rfl (lv_at hl 0 rfl) ?_
  refine lv_iload_n hx hb dX10_incident_2 rfl (lv_at hl 1 rfl) ?_
  obtain ⟨y1, hc2, h⟩ := gx_bind h
  refine cc_iV (As := [.int p0]) (rest := [.ref (ad 0)]) ⟨hx, hb, hml, hown, hts⟩ (k_X10_isIncident l D cI cZ ad u p0 hc2) (cwV 1 hts (gwV mw_1110 mw_1112 mw_40 mw_59 mw_1113) rfl rfl rfl (by decide +kernel) ⟨Nat.le_of_ble_eq_true rfl, Nat.le_of_ble_eq_true rfl⟩) hK hP hD hS hA hZ (ci := 10) (q0 := 0) rfl rfl rfl hl.1 rfl (Nat.le_of_ble_eq_true rfl) dX10_incident_3 ⟨Nat.zero_le _, Nat.zero_le _⟩ (fun H locs hP hD hS => ?_)
  obtain ⟨j27_3, ej27_3, h⟩ := gx_let h
  have hj27_3 : ∀ (z0_27 : Int32) (H : Heap) (locs : List Loc) (ls : Array Slot), j27_3 z0_27 = some (r, w') → va_P D vwCl (wM cI cZ ad u) H → va_D A (wM cI cZ ad u) → va_S A s.heap H locs → lv_has ls 4 [(0, .ref (ad 0)), (1, .int p0), (2, .int p1)] → W p l e rX10_incident s m ([.ref (ad 0), .int p0, .int p1] : List Value).toArray below meth c H locs 0 0 Q (F0 m 27 ls [.int z0_27, .ref (ad 0)]) := by
    intro z0_27 H locs ls h hP hD hS hl
    subst ej27_3
    obtain ⟨y4, hc5, h⟩ := gx_bind h
    refine cc_iV (As := [.int z0_27]) (rest := []) ⟨hx, hb, hml, hown, hts⟩ (k_X10_holds l D cI cZ ad u z0_27 hc5) (cwV 1 hts (gwV mw_976 mw_978 mw_24 mw_59 mw_979) rfl rfl rfl (by decide +kernel) ⟨Nat.le_of_ble_eq_true rfl, Nat.le_of_ble_eq_true rfl⟩) hK hP hD hS hA hZ (ci := 10) (q0 := 0) rfl rfl rfl hl.1 rfl (Nat.le_of_ble_eq_true rfl) dX10_incident_27 ⟨Nat.zero_le _, Nat.zero_le _⟩ (fun H locs hP hD hS => ?_)
    refine lv_if_ne (tgt := 35) hx hb dX10_incident_30 (by decide) (fun c6 => ?_) (fun c6 => ?_)
    · replace h := gx_f c6 h
      refine lv_aload_n hx hb dX10_incident_35 rfl (lv_at hl 0 rfl) ?_
      refine va_get (D := D) (ci := 10) (v := .ref (ad 13)) (C := RX10) (T := TX10) (N := 32) hx hb hts iX10 hown hK hP 0 rfl rfl 20 (by decide) hf47 (fun _ h9 => h9) rfl dX10_incident_36 ?_
      refine lv_iload_n hx hb dX10_incident_39 rfl (lv_at hl 1 rfl) ?_
      obtain ⟨b7, h⟩ := gx_in h
      refine va_iald (D := D) hx hb hK hP 13 0 rfl rfl b7 dX10_incident_40 ?_
      obtain ⟨v8, ev8, h⟩ := gx_let h
      refine lv_topn ev8 ?_
      refine lv_istore_n (lv' := [(3, .int v8), (0, .ref (ad 0)), (1, .int p0), (2, .int p1)]) hx hb dX10_incident_41 rfl hl (by decide) rfl (fun ls hl => ?_)
      refine lv_iload_n hx hb dX10_incident_42 rfl (lv_at hl 3 rfl) ?_
      refine lv_if_ne (tgt := 52) hx hb dX10_incident_43 (by decide) (fun c9 => ?_) (fun c9 => ?_)
      · replace h := gx_f c9 h
        refine lv_iload_n hx hb dX10_incident_52 rfl (lv_at hl 3 rfl) ?_
        refine lv_iconst (v := 1) hx hb dX10_incident_53 (by decide) ?_
        refine lv_icmp_ne (tgt := 63) hx hb dX10_incident_54 (by decide) (fun c10 => ?_) (fun c10 => ?_)
        · replace h := gx_f c10 h
          refine lv_iload_n hx hb dX10_incident_63 rfl (lv_at hl 3 rfl) ?_
          refine lv_iconst (v := 2) hx hb dX10_incident_64 (by decide) ?_
          refine lv_icmp_ne (tgt := 77) hx hb dX10_incident_65 (by decide) (fun c11 => ?_) (fun c11 => ?_)
          · replace h := gx_f c11 h
            refine lv_aload_n hx hb dX10_incident_77 rfl (lv_at hl 1 rfl) ?_
            refine lv_iload_n hx hb dX10_incident_78 rfl (lv_at hl 2 rfl) ?_
            obtain ⟨y12, hc13, h⟩ := gx_bind h
            refine cc_iV (As := [.int p0]) (rest := []) ⟨hx, hb, hml, hown, hts⟩ (k_X10_patrolOf l D cI cZ ad y4.2 p0 hc13) (cwV 1 hts (gwV mw_1118 mw_1120 mw_41 mw_59 mw_1121) rfl rfl rfl (by decide +kernel) ⟨Nat.le_of_ble_eq_true rfl, Nat.le_of_ble_eq_true rfl⟩) hK hP hD hS hA hZ (ci := 10) (q0 := 0) rfl rfl rfl hl.1 rfl (Nat.le_of_ble_eq_true rfl) dX10_incident_79 ⟨Nat.zero_le _, Nat.zero_le _⟩ (fun H locs hP hD hS => ?_)
            cases h
            exact cc_ret hx hb hr rfl hQ hK hP hD hS rfl dX10_incident_82 hlocks
          · replace h := gx_t c11 h
            refine lv_aload_n hx hb dX10_incident_68 rfl (lv_at hl 1 rfl) ?_
            refine va_get (D := D) (ci := 10) (v := .ref (ad 14)) (C := RX10) (T := TX10) (N := 32) hx hb hts iX10 hown hK hP 0 rfl rfl 21 (by decide) hf50 (fun _ h9 => h9) rfl dX10_incident_69 ?_
            refine lv_iload_n hx hb dX10_incident_72 rfl (lv_at hl 2 rfl) ?_
            obtain ⟨b14, h⟩ := gx_in h
            refine va_iald (D := D) hx hb hK hP 14 0 rfl rfl b14 dX10_incident_73 ?_
            refine lv_goto (tgt := 82) hx hb dX10_incident_74 (by decide) ?_
            cases h
            exact cc_ret hx hb hr rfl hQ hK hP hD hS rfl dX10_incident_82 hlocks
        · replace h := gx_t c10 h
          refine lv_iload_n hx hb dX10_incident_57 rfl (lv_at hl 0 rfl) ?_
          refine lv_iconst (v := 4) hx hb dX10_incident_58 (by decide) ?_
          refine lv_irem hx hb dX10_incident_59 (by decide) ?_
          refine lv_goto (tgt := 82) hx hb dX10_incident_60 (by decide) ?_
          cases h
          exact cc_ret hx hb hr rfl hQ hK hP hD hS rfl dX10_incident_82 hlocks
      · replace h := gx_t c9 h
        refine lv_iload_n hx hb dX10_incident_46 rfl (lv_at hl 0 rfl) ?_
        refine lv_iconst (v := 4) hx hb dX10_incident_47 (by decide) ?_
        refine lv_idiv hx hb dX10_incident_48 (by decide) ?_
        refine lv_goto (tgt := 82) hx hb dX10_incident_49 (by decide) ?_
        cases h
        exact cc_ret hx hb hr rfl hQ hK hP hD hS rfl dX10_incident_82 hlocks
    · replace h := gx_t c6 h
      refine lv_iconst (v := 0) hx hb dX10_incident_33 (by decide) ?_
      cases h
      exact cc_ret hx hb hr rfl hQ hK hP hD hS rfl dX10_incident_34 hlocks
  refine lv_if_ne (tgt := 13) hx hb dX10_incident_6 (by decide) (fun c15 => ?_) (fun c15 => ?_)
  · replace h := gx_f c15 h
    refine lv_iload_n hx hb dX10_incident_13 rfl (lv_at hl 2 rfl) ?_
    refine lv_iconst (v := 0) hx hb dX10_incident_14 (by decide) ?_
    refine lv_iconst (v := 3) hx hb dX10_incident_15 (by decide) ?_
    obtain ⟨y16, hc17, h⟩ := gx_bind h
    refine cc_iS (As := [.int p1, .int (0 : Int32), .int (3 : Int32)]) (rest := [.ref (ad 0)]) ⟨hx, hb, hml, hown, hts⟩ (k_X10_isIn l D cI cZ ad u p1 (0 : Int32) (3 : Int32) hc17) (va_cwS 3 hts (gwS mw_860 mw_861 mw_59 mw_862) rfl rfl rfl (by decide +kernel) ⟨Nat.le_of_ble_eq_true rfl, Nat.le_of_ble_eq_true rfl⟩) hK hP hD hS hA hZ rfl hl.1 rfl (Nat.le_of_ble_eq_true rfl) dX10_incident_16 ⟨Nat.zero_le _, Nat.zero_le _⟩ (fun H locs hP hD hS => ?_)
    refine lv_if_eq (tgt := 26) hx hb dX10_incident_19 (by decide) (fun c18 => ?_) (fun c18 => ?_)
    · replace h := gx_t c18 h
      refine lv_iconst (v := 2) hx hb dX10_incident_26 (by decide) ?_
      exact hj27_3 (2 : Int32) _ _ _ h hP hD hS (lv_sub hl [0, 1, 2] rfl)
    · replace h := gx_f c18 h
      refine lv_iconst (v := 0) hx hb dX10_incident_22 (by decide) ?_
      refine lv_goto (tgt := 27) hx hb dX10_incident_23 (by decide) ?_
      exact hj27_3 (0 : Int32) _ _ _ h hP hD hS (lv_sub hl [0, 1, 2] rfl)
  · replace h := gx_t c15 h
    refine lv_iconst (v := 1) hx hb dX10_incident_9 (by decide) ?_
    refine lv_goto (tgt := 27) hx hb dX10_incident_10 (by decide) ?_
    exact hj27_3 (1 : Int32) _ _ _ h hP hD hS (lv_sub hl [0, 1, 2] rfl)

def rX10_pattern : Room := { frames := 4, cells := 0, slots := 0, locals := 92 }
set_option maxHeartbeats 4000000 in
set_option maxRecDepth 100000 in
theorem k_X10_pattern (l : Launch) (D : va_G) (cI cZ : ClassId) (ad : Nat → Nat) (u : MS) {r : Int32} {w' : MS} (h : g_X10_pattern u = some (r, w')) : MI l yX10_pattern (wm yX10_pattern cX10_pattern 2 (some .int)) rX10_pattern D [(cI, .int), (cZ, .boolean)] (wM cI cZ ad u) (wM cI cZ ad w') [.ref (ad 0)] r := by
  intro sz
  refine Met.ofW (cc := cX10_pattern) (maxL := 2) (ret := (some .int)) (by decide) rfl ?_
  intro p e s m args below meth c s₁ B hml hv
  obtain ⟨rfl, hsz, hP, hK, hD0, hZ⟩ := hv
  have hx := B.exec
  have hb := B.bytes
  have hr := B.returns
  have hts : ∀ w ∈ Wall, w.before _ s = true := fun w hw => atoms_spec (ws := wm yX10_pattern cX10_pattern 2 (some .int)) B.pre w (List.mem_cons_of_mem _ hw)
  have hown : s.vm.findClass RX10 = some m.cls := findClass_of_methodNamed B.named
  have hlocks := B.notSynchronized
  subst hsz
  have hD := hD0.self (sz := s.heap.size)
  generalize hAe : va_A (wM cI cZ ad u) s.heap.size = A at hD hZ ⊢
  have hA : ∀ q : Nat, s.heap.size ≤ q → A q := fun q h => by rw [← hAe]; exact Or.inr h
  have hS : va_S A s.heap s.heap [] := va_S.rf
  have hf83 := hts _ mw_871
  have hl := lv_entry ([.ref (ad 0)]) (n := 2) (Nat.le_of_ble_eq_true rfl)
  rw [lg_entry_eq]
  generalize (lg_sl ([.ref (ad 0)]) ++ List.replicate (2 - (lg_sl ([.ref (ad 0)])).length) Slot.unset).toArray = ls at hl ⊢
  replace hl : lv_has ls 2 [(0, .ref (ad 0))] := hl
  refine w_gen (fun Q hQ => ?_)
  refine lv_aload_n hx hb dX10_pattern_0 rfl (lv_at hl 0 rfl) ?_
  refine lv_iconst (v := 0) hx hb dX10_pattern_1 (by decide) ?_
  refine va_put (D := D) (ci := 10) (v := .int (0 : Int32)) (ty := .int) (C := RX10) (T := TX10) (N := 32) hx hb hts iX10 tyX10 tyX10_ok nmX10 hown hK hP hD hS 0 rfl rfl 0 (by decide) hf83 (fun _ h9 => h9) rfl (by decide +kernel) rfl rfl (Nat.le_of_ble_eq_true rfl) dX10_pattern_2 (fun H locs hP hD hS => ?_)
  obtain ⟨u1, eu1, h⟩ := gx_let h
  replace hP : va_P D vwCl (wM cI cZ ad u1) H := by rw [← eu1]; exact hP
  replace hD : va_D A (wM cI cZ ad u1) := by rw [← eu1]; exact hD
  refine lv_iconst (v := 0) hx hb dX10_pattern_5 (by decide) ?_
  refine lv_istore_n (lv' := [(1, .int (0 : Int32)), (0, .ref (ad 0))]) hx hb dX10_pattern_6 rfl hl (by decide) rfl (fun ls hl => ?_)
  have hL7 : ∀ (k : Unit → Option (Int32 × MS)) (hk : ∀ (H : Heap) (locs : List Loc) (ls : Array Slot), k () = some (r, w') → va_P D vwCl (wM cI cZ ad u1) H → va_D A (wM cI cZ ad u1) → va_S A s.heap H locs → lv_has ls 2 [] → W p l e rX10_pattern s m ([.ref (ad 0)] : List Value).toArray below meth c H locs 0 0 Q (F0 m 47 ls [])) (n : Nat) (x1_7 : Int32) (H : Heap) (locs : List Loc) (ls : Array Slot), lp_X10_pattern_7 u1 k n x1_7 = some (r, w') → va_P D vwCl (wM cI cZ ad u1) H → va_D A (wM cI cZ ad u1) → va_S A s.heap H locs → lv_has ls 2 [(0, .ref (ad 0)), (1, .int x1_7)] → W p l e rX10_pattern s m ([.ref (ad 0)] : List Value).toArray below meth c H locs 0 0 Q (F0 m 7 ls []) := by
    intro k hk n
    induction n with
    | zero =>
      intro x1_7 H locs ls h
      rw [lp_X10_pattern_7] at h
      cases h
    | succ n ih =>
      intro x1_7 H locs ls h hP hD hS hl
      rw [lp_X10_pattern_7] at h
      refine lv_iload_n hx hb dX10_pattern_7 rfl (lv_at hl 1 rfl) ?_
      refine lv_bipush (v := 11) hx hb dX10_pattern_8 (by decide) ?_
      refine lv_icmp_ge (tgt := 47) hx hb dX10_pattern_10 (by decide) (fun c2 => ?_) (fun c2 => ?_)
      · replace h := gx_t c2 h
        exact hk _ _ _ h hP hD hS (lv_sub hl [] rfl)
      · replace h := gx_f c2 h
        refine lv_aload_n hx hb dX10_pattern_13 rfl (lv_at hl 0 rfl) ?_
        refine lv_iload_n hx hb dX10_pattern_14 rfl (lv_at hl 1 rfl) ?_
        obtain ⟨y3, hc4, h⟩ := gx_bind h
        refine cc_iV (As := [.int x1_7]) (rest := []) ⟨hx, hb, hml, hown, hts⟩ (k_X10_beliefOf l D cI cZ ad u1 x1_7 hc4) (cwV 1 hts (gwV mw_1020 mw_1022 mw_34 mw_59 mw_1023) rfl rfl rfl (by decide +kernel) ⟨Nat.le_of_ble_eq_true rfl, Nat.le_of_ble_eq_true rfl⟩) hK hP hD hS hA hZ (ci := 10) (q0 := 0) rfl rfl rfl hl.1 rfl (Nat.le_of_ble_eq_true rfl) dX10_pattern_15 ⟨Nat.zero_le _, Nat.zero_le _⟩ (fun H locs hP hD hS => ?_)
        refine lv_iconst (v := 0) hx hb dX10_pattern_18 (by decide) ?_
        refine lv_bipush (v := 39) hx hb dX10_pattern_19 (by decide) ?_
        obtain ⟨y5, hc6, h⟩ := gx_bind h
        refine cc_iS (As := [.int y3, .int (0 : Int32), .int (39 : Int32)]) (rest := []) ⟨hx, hb, hml, hown, hts⟩ (k_X10_isIn l D cI cZ ad u1 y3 (0 : Int32) (39 : Int32) hc6) (va_cwS 3 hts (gwS mw_860 mw_861 mw_59 mw_862) rfl rfl rfl (by decide +kernel) ⟨Nat.le_of_ble_eq_true rfl, Nat.le_of_ble_eq_true rfl⟩) hK hP hD hS hA hZ rfl hl.1 rfl (Nat.le_of_ble_eq_true rfl) dX10_pattern_21 ⟨Nat.zero_le _, Nat.zero_le _⟩ (fun H locs hP hD hS => ?_)
        obtain ⟨j41_7, ej41_7, h⟩ := gx_let h
        have hj41_7 : ∀ (H : Heap) (locs : List Loc) (ls : Array Slot), j41_7 () = some (r, w') → va_P D vwCl (wM cI cZ ad u1) H → va_D A (wM cI cZ ad u1) → va_S A s.heap H locs → lv_has ls 2 [(0, .ref (ad 0)), (1, .int x1_7)] → W p l e rX10_pattern s m ([.ref (ad 0)] : List Value).toArray below meth c H locs 0 0 Q (F0 m 41 ls []) := by
          intro  H locs ls h hP hD hS hl
          subst ej41_7
          obtain ⟨v8, ev8, h⟩ := gx_let h
          refine lv_iinc (v := v8) (lv' := [(1, .int v8), (0, .ref (ad 0))]) hx hb dX10_pattern_41 hl (k := 1) rfl (by rw [← ev8]; rfl) (by decide) rfl (fun ls hl => ?_)
          refine lv_goto (tgt := 7) hx hb dX10_pattern_44 (by decide) ?_
          exact ih v8 _ _ _ h hP hD hS (lv_sub hl [1, 0] rfl)
        refine lv_if_eq (tgt := 41) hx hb dX10_pattern_24 (by decide) (fun c9 => ?_) (fun c9 => ?_)
        · replace h := gx_t c9 h
          exact hj41_7 _ _ _ h hP hD hS (lv_sub hl [0, 1] rfl)
        · replace h := gx_f c9 h
          refine lv_aload_n hx hb dX10_pattern_27 rfl (lv_at hl 0 rfl) ?_
          refine lv_iload_n hx hb dX10_pattern_28 rfl (lv_at hl 1 rfl) ?_
          refine lv_iconst (v := 1) hx hb dX10_pattern_29 (by decide) ?_
          refine lv_iadd hx hb dX10_pattern_30 ?_
          obtain ⟨y10, hc11, h⟩ := gx_bind h
          refine cc_iV (As := [.int (x1_7 + (1 : Int32))]) (rest := []) ⟨hx, hb, hml, hown, hts⟩ (k_X10_beliefOf l D cI cZ ad u1 (x1_7 + (1 : Int32)) hc11) (cwV 1 hts (gwV mw_1020 mw_1022 mw_34 mw_59 mw_1023) rfl rfl rfl (by decide +kernel) ⟨Nat.le_of_ble_eq_true rfl, Nat.le_of_ble_eq_true rfl⟩) hK hP hD hS hA hZ (ci := 10) (q0 := 0) rfl rfl rfl hl.1 rfl (Nat.le_of_ble_eq_true rfl) dX10_pattern_31 ⟨Nat.zero_le _, Nat.zero_le _⟩ (fun H locs hP hD hS => ?_)
          refine lv_bipush (v := 80) hx hb dX10_pattern_34 (by decide) ?_
          refine lv_icmp_lt (tgt := 41) hx hb dX10_pattern_36 (by decide) (fun c12 => ?_) (fun c12 => ?_)
          · replace h := gx_t c12 h
            exact hj41_7 _ _ _ h hP hD hS (lv_sub hl [0, 1] rfl)
          · replace h := gx_f c12 h
            refine lv_iload_n hx hb dX10_pattern_39 rfl (lv_at hl 1 rfl) ?_
            cases h
            exact cc_ret hx hb hr rfl hQ hK hP hD hS rfl dX10_pattern_40 hlocks
  refine hL7 _ (fun H locs ls h hP hD hS hl => ?_) FU (0 : Int32) _ _ _ h hP hD hS (lv_sub hl [1, 0] rfl)
  refine lv_iconst (v := (-1)) hx hb dX10_pattern_47 (by decide) ?_
  cases h
  exact cc_ret hx hb hr rfl hQ hK hP hD hS rfl dX10_pattern_48 hlocks

def rX10_isPatrol : Room := { frames := 1, cells := 0, slots := 0, locals := 22 }
set_option maxHeartbeats 4000000 in
set_option maxRecDepth 100000 in
theorem k_X10_isPatrol (l : Launch) (D : va_G) (cI cZ : ClassId) (ad : Nat → Nat) (u : MS) (p0 : Int32) {r : Int32} (h : g_X10_isPatrol p0 = some r) : MI l yX10_isPatrol (wm yX10_isPatrol cX10_isPatrol 1 (some .boolean)) rX10_isPatrol D [(cI, .int), (cZ, .boolean)] (wM cI cZ ad u) (wM cI cZ ad u) [.int p0] r := by
  intro sz
  refine Met.ofW (cc := cX10_isPatrol) (maxL := 1) (ret := (some .boolean)) (by decide) rfl ?_
  intro p e s m args below meth c s₁ B hml hv
  obtain ⟨rfl, hsz, hP, hK, hD0, hZ⟩ := hv
  have hx := B.exec
  have hb := B.bytes
  have hr := B.returns
  have hts : ∀ w ∈ Wall, w.before _ s = true := fun w hw => atoms_spec (ws := wm yX10_isPatrol cX10_isPatrol 1 (some .boolean)) B.pre w (List.mem_cons_of_mem _ hw)
  have hown : s.vm.findClass RX10 = some m.cls := findClass_of_methodNamed B.named
  have hlocks := B.notSynchronized
  subst hsz
  have hD := hD0.self (sz := s.heap.size)
  generalize hAe : va_A (wM cI cZ ad u) s.heap.size = A at hD hZ ⊢
  have hA : ∀ q : Nat, s.heap.size ≤ q → A q := fun q h => by rw [← hAe]; exact Or.inr h
  have hS : va_S A s.heap s.heap [] := va_S.rf
  have hl := lv_entry ([.int p0]) (n := 1) (Nat.le_of_ble_eq_true rfl)
  rw [lg_entry_eq]
  generalize (lg_sl ([.int p0]) ++ List.replicate (1 - (lg_sl ([.int p0])).length) Slot.unset).toArray = ls at hl ⊢
  replace hl : lv_has ls 1 [(0, .int p0)] := hl
  refine w_gen (fun Q hQ => ?_)
  refine lv_iload_n hx hb dX10_isPatrol_0 rfl (lv_at hl 0 rfl) ?_
  refine lv_iconst (v := 0) hx hb dX10_isPatrol_1 (by decide) ?_
  refine lv_iconst (v := 2) hx hb dX10_isPatrol_2 (by decide) ?_
  obtain ⟨y1, hc2, h⟩ := gx_bind h
  refine cc_iS (As := [.int p0, .int (0 : Int32), .int (2 : Int32)]) (rest := []) ⟨hx, hb, hml, hown, hts⟩ (k_X10_isIn l D cI cZ ad u p0 (0 : Int32) (2 : Int32) hc2) (va_cwS 3 hts (gwS mw_860 mw_861 mw_59 mw_862) rfl rfl rfl (by decide +kernel) ⟨Nat.le_of_ble_eq_true rfl, Nat.le_of_ble_eq_true rfl⟩) hK hP hD hS hA hZ rfl hl.1 rfl (Nat.le_of_ble_eq_true rfl) dX10_isPatrol_3 ⟨Nat.zero_le _, Nat.zero_le _⟩ (fun H locs hP hD hS => ?_)
  obtain ⟨bo, h⟩ := gx_bo h
  cases h
  exact cc_ret hx hb hr bo hQ hK hP hD hS rfl dX10_isPatrol_6 hlocks

def rX10_wayOf : Room := { frames := 1, cells := 0, slots := 0, locals := 24 }
set_option maxHeartbeats 4000000 in
set_option maxRecDepth 100000 in
theorem k_X10_wayOf (l : Launch) (D : va_G) (cI cZ : ClassId) (ad : Nat → Nat) (u : MS) (p0 : Int32) (p1 : Int32) {r : Int32} (h : g_X10_wayOf u p0 p1 = some r) : MI l yX10_wayOf (wm yX10_wayOf cX10_wayOf 5 (some .int)) rX10_wayOf D [(cI, .int), (cZ, .boolean)] (wM cI cZ ad u) (wM cI cZ ad u) [.ref (ad 0), .int p0, .int p1] r := by
  intro sz
  refine Met.ofW (cc := cX10_wayOf) (maxL := 5) (ret := (some .int)) (by decide) rfl ?_
  intro p e s m args below meth c s₁ B hml hv
  obtain ⟨rfl, hsz, hP, hK, hD0, hZ⟩ := hv
  have hx := B.exec
  have hb := B.bytes
  have hr := B.returns
  have hts : ∀ w ∈ Wall, w.before _ s = true := fun w hw => atoms_spec (ws := wm yX10_wayOf cX10_wayOf 5 (some .int)) B.pre w (List.mem_cons_of_mem _ hw)
  have hown : s.vm.findClass RX10 = some m.cls := findClass_of_methodNamed B.named
  have hlocks := B.notSynchronized
  subst hsz
  have hD := hD0.self (sz := s.heap.size)
  generalize hAe : va_A (wM cI cZ ad u) s.heap.size = A at hD hZ ⊢
  have hA : ∀ q : Nat, s.heap.size ≤ q → A q := fun q h => by rw [← hAe]; exact Or.inr h
  have hS : va_S A s.heap s.heap [] := va_S.rf
  have hf53 := hts _ mw_893
  have hf23 := hts _ mw_881
  have hl := lv_entry ([.ref (ad 0), .int p0, .int p1]) (n := 5) (Nat.le_of_ble_eq_true rfl)
  rw [lg_entry_eq]
  generalize (lg_sl ([.ref (ad 0), .int p0, .int p1]) ++ List.replicate (5 - (lg_sl ([.ref (ad 0), .int p0, .int p1])).length) Slot.unset).toArray = ls at hl ⊢
  replace hl : lv_has ls 5 [(0, .ref (ad 0)), (1, .int p0), (2, .int p1)] := hl
  refine w_gen (fun Q hQ => ?_)
  refine lv_iload_n hx hb dX10_wayOf_0 rfl (lv_at hl 2 rfl) ?_
  refine lv_aload_n hx hb dX10_wayOf_1 rfl (lv_at hl 0 rfl) ?_
  refine va_get (D := D) (ci := 10) (v := .ref (ad 15)) (C := RX10) (T := TX10) (N := 32) hx hb hts iX10 hown hK hP 0 rfl rfl 22 (by decide) hf53 (fun _ h9 => h9) rfl dX10_wayOf_2 ?_
  refine lv_iload_n hx hb dX10_wayOf_5 rfl (lv_at hl 1 rfl) ?_
  obtain ⟨b1, h⟩ := gx_in h
  refine va_iald (D := D) hx hb hK hP 15 0 rfl rfl b1 dX10_wayOf_6 ?_
  obtain ⟨j24_2, ej24_2, h⟩ := gx_let h
  have hj24_2 : ∀ (z0_24 : Int32) (H : Heap) (locs : List Loc) (ls : Array Slot), j24_2 z0_24 = some r → va_P D vwCl (wM cI cZ ad u) H → va_D A (wM cI cZ ad u) → va_S A s.heap H locs → lv_has ls 5 [(0, .ref (ad 0)), (1, .int p0), (2, .int p1)] → W p l e rX10_wayOf s m ([.ref (ad 0), .int p0, .int p1] : List Value).toArray below meth c H locs 0 0 Q (F0 m 24 ls [.int z0_24]) := by
    intro z0_24 H locs ls h hP hD hS hl
    subst ej24_2
    refine lv_istore_n (lv' := [(3, .int z0_24), (0, .ref (ad 0)), (1, .int p0), (2, .int p1)]) hx hb dX10_wayOf_24 rfl hl (by decide) rfl (fun ls hl => ?_)
    refine lv_aload_n hx hb dX10_wayOf_25 rfl (lv_at hl 1 rfl) ?_
    refine va_get (D := D) (ci := 10) (v := .ref (ad 15)) (C := RX10) (T := TX10) (N := 32) hx hb hts iX10 hown hK hP 0 rfl rfl 22 (by decide) hf53 (fun _ h9 => h9) rfl dX10_wayOf_26 ?_
    refine lv_iload_n hx hb dX10_wayOf_29 rfl (lv_at hl 2 rfl) ?_
    obtain ⟨b3, h⟩ := gx_in h
    refine va_iald (D := D) hx hb hK hP 15 0 rfl rfl b3 dX10_wayOf_30 ?_
    refine lv_iconst (v := 1) hx hb dX10_wayOf_31 (by decide) ?_
    refine lv_iadd hx hb dX10_wayOf_32 ?_
    obtain ⟨v4, ev4, h⟩ := gx_let h
    refine lv_topn ev4 ?_
    refine lv_istore (lv' := [(4, .int v4), (3, .int z0_24), (0, .ref (ad 0)), (1, .int p0), (2, .int p1)]) hx hb dX10_wayOf_33 hl (by decide) rfl (fun ls hl => ?_)
    have hL35 : ∀ (k : Int32 → Option (Int32)) (hk : ∀ (x3_35 : Int32) (H : Heap) (locs : List Loc) (ls : Array Slot), k x3_35 = some r → va_P D vwCl (wM cI cZ ad u) H → va_D A (wM cI cZ ad u) → va_S A s.heap H locs → lv_has ls 5 [(3, .int x3_35)] → W p l e rX10_wayOf s m ([.ref (ad 0), .int p0, .int p1] : List Value).toArray below meth c H locs 0 0 Q (F0 m 74 ls [])) (n : Nat) (x3_35 : Int32) (x4_35 : Int32) (H : Heap) (locs : List Loc) (ls : Array Slot), lp_X10_wayOf_35 u p1 k n x3_35 x4_35 = some r → va_P D vwCl (wM cI cZ ad u) H → va_D A (wM cI cZ ad u) → va_S A s.heap H locs → lv_has ls 5 [(0, .ref (ad 0)), (2, .int p1), (3, .int x3_35), (4, .int x4_35)] → W p l e rX10_wayOf s m ([.ref (ad 0), .int p0, .int p1] : List Value).toArray below meth c H locs 0 0 Q (F0 m 35 ls []) := by
      intro k hk n
      induction n with
      | zero =>
        intro x3_35 x4_35 H locs ls h
        rw [lp_X10_wayOf_35] at h
        cases h
      | succ n ih =>
        intro x3_35 x4_35 H locs ls h hP hD hS hl
        rw [lp_X10_wayOf_35] at h
        refine lv_iload hx hb dX10_wayOf_35 (lv_at hl 3 rfl) ?_
        refine lv_iload_n hx hb dX10_wayOf_37 rfl (lv_at hl 1 rfl) ?_
        refine lv_icmp_gt (tgt := 74) hx hb dX10_wayOf_38 (by decide) (fun c5 => ?_) (fun c5 => ?_)
        · replace h := gx_t c5 h
          exact hk x3_35 _ _ _ h hP hD hS (lv_sub hl [2] rfl)
        · replace h := gx_f c5 h
          refine lv_iload_n hx hb dX10_wayOf_41 rfl (lv_at hl 2 rfl) ?_
          refine lv_aload_n hx hb dX10_wayOf_42 rfl (lv_at hl 0 rfl) ?_
          refine va_get (D := D) (ci := 10) (v := .ref (ad 5)) (C := RX10) (T := TX10) (N := 32) hx hb hts iX10 hown hK hP 0 rfl rfl 10 (by decide) hf23 (fun _ h9 => h9) rfl dX10_wayOf_43 ?_
          refine lv_iload hx hb dX10_wayOf_46 (lv_at hl 3 rfl) ?_
          obtain ⟨b6, h⟩ := gx_in h
          refine va_zald (D := D) hx hb hK hP 5 1 rfl rfl b6 dX10_wayOf_48 ?_
          obtain ⟨j66_7, ej66_7, h⟩ := gx_let h
          have hj66_7 : ∀ (z0_66 : Int32) (H : Heap) (locs : List Loc) (ls : Array Slot), j66_7 z0_66 = some r → va_P D vwCl (wM cI cZ ad u) H → va_D A (wM cI cZ ad u) → va_S A s.heap H locs → lv_has ls 5 [(0, .ref (ad 0)), (2, .int p1), (4, .int x4_35)] → W p l e rX10_wayOf s m ([.ref (ad 0), .int p0, .int p1] : List Value).toArray below meth c H locs 0 0 Q (F0 m 66 ls [.int z0_66, .int x3_35]) := by
            intro z0_66 H locs ls h hP hD hS hl
            subst ej66_7
            refine lv_iadd hx hb dX10_wayOf_66 ?_
            obtain ⟨v8, ev8, h⟩ := gx_let h
            refine lv_topn ev8 ?_
            refine lv_istore_n (lv' := [(3, .int v8), (0, .ref (ad 0)), (2, .int p1), (4, .int x4_35)]) hx hb dX10_wayOf_67 rfl hl (by decide) rfl (fun ls hl => ?_)
            obtain ⟨v9, ev9, h⟩ := gx_let h
            refine lv_iinc (v := v9) (lv' := [(4, .int v9), (3, .int v8), (0, .ref (ad 0)), (2, .int p1)]) hx hb dX10_wayOf_68 hl (k := 3) rfl (by rw [← ev9]; rfl) (by decide) rfl (fun ls hl => ?_)
            refine lv_goto (tgt := 35) hx hb dX10_wayOf_71 (by decide) ?_
            exact ih v8 v9 _ _ _ h hP hD hS (lv_sub hl [2, 3, 1, 0] rfl)
          refine lv_if_eq (tgt := 65) hx hb dX10_wayOf_49 (by decide) (fun c10 => ?_) (fun c10 => ?_)
          · replace h := gx_t c10 h
            refine lv_iconst (v := 1) hx hb dX10_wayOf_65 (by decide) ?_
            exact hj66_7 (1 : Int32) _ _ _ h hP hD hS (lv_sub hl [0, 1, 3] rfl)
          · replace h := gx_f c10 h
            refine lv_iconst (v := 1) hx hb dX10_wayOf_52 (by decide) ?_
            refine lv_aload_n hx hb dX10_wayOf_53 rfl (lv_at hl 0 rfl) ?_
            refine lv_iload hx hb dX10_wayOf_54 (lv_at hl 3 rfl) ?_
            obtain ⟨y11, hc12, h⟩ := gx_bind h
            refine cc_iV (As := [.int x4_35]) (rest := [.int (1 : Int32), .int x3_35]) ⟨hx, hb, hml, hown, hts⟩ (k_X10_mostOf l D cI cZ ad u x4_35 hc12) (cwV 1 hts (gwV mw_1008 mw_1010 mw_31 mw_59 mw_1011) rfl rfl rfl (by decide +kernel) ⟨Nat.le_of_ble_eq_true rfl, Nat.le_of_ble_eq_true rfl⟩) hK hP hD hS hA hZ (ci := 10) (q0 := 0) rfl rfl rfl hl.1 rfl (Nat.le_of_ble_eq_true rfl) dX10_wayOf_56 ⟨Nat.zero_le _, Nat.zero_le _⟩ (fun H locs hP hD hS => ?_)
            refine lv_iconst (v := 5) hx hb dX10_wayOf_59 (by decide) ?_
            refine lv_idiv hx hb dX10_wayOf_60 (by decide) ?_
            refine lv_iadd hx hb dX10_wayOf_61 ?_
            refine lv_goto (tgt := 66) hx hb dX10_wayOf_62 (by decide) ?_
            exact hj66_7 ((1 : Int32) + (y11 / (5 : Int32))) _ _ _ h hP hD hS (lv_sub hl [0, 1, 3] rfl)
    refine hL35 _ (fun x3_35 H locs ls h hP hD hS hl => ?_) FU z0_24 v4 _ _ _ h hP hD hS (lv_sub hl [2, 4, 1, 0] rfl)
    refine lv_iload_n hx hb dX10_wayOf_74 rfl (lv_at hl 0 rfl) ?_
    cases h
    exact cc_ret hx hb hr rfl hQ hK hP hD hS rfl dX10_wayOf_75 hlocks
  refine lv_icmp_ge (tgt := 23) hx hb dX10_wayOf_7 (by decide) (fun c13 => ?_) (fun c13 => ?_)
  · replace h := gx_t c13 h
    refine lv_iconst (v := 0) hx hb dX10_wayOf_23 (by decide) ?_
    exact hj24_2 (0 : Int32) _ _ _ h hP hD hS (lv_sub hl [0, 1, 2] rfl)
  · replace h := gx_f c13 h
    refine lv_iconst (v := 3) hx hb dX10_wayOf_10 (by decide) ?_
    refine lv_aload_n hx hb dX10_wayOf_11 rfl (lv_at hl 0 rfl) ?_
    refine va_get (D := D) (ci := 10) (v := .ref (ad 15)) (C := RX10) (T := TX10) (N := 32) hx hb hts iX10 hown hK hP 0 rfl rfl 22 (by decide) hf53 (fun _ h9 => h9) rfl dX10_wayOf_12 ?_
    refine lv_iload_n hx hb dX10_wayOf_15 rfl (lv_at hl 1 rfl) ?_
    obtain ⟨b14, h⟩ := gx_in h
    refine va_iald (D := D) hx hb hK hP 15 0 rfl rfl b14 dX10_wayOf_16 ?_
    refine lv_iload_n hx hb dX10_wayOf_17 rfl (lv_at hl 2 rfl) ?_
    refine lv_isub hx hb dX10_wayOf_18 ?_
    refine lv_imul hx hb dX10_wayOf_19 ?_
    refine lv_goto (tgt := 24) hx hb dX10_wayOf_20 (by decide) ?_
    exact hj24_2 ((3 : Int32) * ((mP_at u p0.toNatClampNeg) - p1)) _ _ _ h hP hD hS (lv_sub hl [0, 1, 2] rfl)

def rX10_way : Room := { frames := 2, cells := 0, slots := 0, locals := 48 }
set_option maxHeartbeats 4000000 in
set_option maxRecDepth 100000 in
theorem k_X10_way (l : Launch) (D : va_G) (cI cZ : ClassId) (ad : Nat → Nat) (u : MS) (p0 : Int32) (p1 : Int32) {r : Int32} {w' : MS} (h : g_X10_way u p0 p1 = some (r, w')) : MI l yX10_way (wm yX10_way cX10_way 3 (some .int)) rX10_way D [(cI, .int), (cZ, .boolean)] (wM cI cZ ad u) (wM cI cZ ad w') [.ref (ad 0), .int p0, .int p1] r := by
  intro sz
  refine Met.ofW (cc := cX10_way) (maxL := 3) (ret := (some .int)) (by decide) rfl ?_
  intro p e s m args below meth c s₁ B hml hv
  obtain ⟨rfl, hsz, hP, hK, hD0, hZ⟩ := hv
  have hx := B.exec
  have hb := B.bytes
  have hr := B.returns
  have hts : ∀ w ∈ Wall, w.before _ s = true := fun w hw => atoms_spec (ws := wm yX10_way cX10_way 3 (some .int)) B.pre w (List.mem_cons_of_mem _ hw)
  have hown : s.vm.findClass RX10 = some m.cls := findClass_of_methodNamed B.named
  have hlocks := B.notSynchronized
  subst hsz
  have hD := hD0.self (sz := s.heap.size)
  generalize hAe : va_A (wM cI cZ ad u) s.heap.size = A at hD hZ ⊢
  have hA : ∀ q : Nat, s.heap.size ≤ q → A q := fun q h => by rw [← hAe]; exact Or.inr h
  have hS : va_S A s.heap s.heap [] := va_S.rf
  have hl := lv_entry ([.ref (ad 0), .int p0, .int p1]) (n := 3) (Nat.le_of_ble_eq_true rfl)
  rw [lg_entry_eq]
  generalize (lg_sl ([.ref (ad 0), .int p0, .int p1]) ++ List.replicate (3 - (lg_sl ([.ref (ad 0), .int p0, .int p1])).length) Slot.unset).toArray = ls at hl ⊢
  replace hl : lv_has ls 3 [(0, .ref (ad 0)), (1, .int p0), (2, .int p1)] := hl
  refine w_gen (fun Q hQ => ?_)
  refine lv_aload_n hx hb dX10_way_0 rfl (lv_at hl 0 rfl) ?_
  refine lv_iload_n hx hb dX10_way_1 rfl (lv_at hl 1 rfl) ?_
  obtain ⟨y1, hc2, h⟩ := gx_bind h
  refine cc_iS (As := [.int p0]) (rest := [.ref (ad 0)]) ⟨hx, hb, hml, hown, hts⟩ (k_X10_isPatrol l D cI cZ ad u p0 hc2) (va_cwS 1 hts (gwS mw_1130 mw_1131 mw_59 mw_1132) rfl rfl rfl (by decide +kernel) ⟨Nat.le_of_ble_eq_true rfl, Nat.le_of_ble_eq_true rfl⟩) hK hP hD hS hA hZ rfl hl.1 rfl (Nat.le_of_ble_eq_true rfl) dX10_way_2 ⟨Nat.zero_le _, Nat.zero_le _⟩ (fun H locs hP hD hS => ?_)
  obtain ⟨j20_3, ej20_3, h⟩ := gx_let h
  have hj20_3 : ∀ (z0_20 : Int32) (H : Heap) (locs : List Loc) (ls : Array Slot), j20_3 z0_20 = some (r, w') → va_P D vwCl (wM cI cZ ad u) H → va_D A (wM cI cZ ad u) → va_S A s.heap H locs → lv_has ls 3 [(0, .ref (ad 0)), (1, .int p0), (2, .int p1)] → W p l e rX10_way s m ([.ref (ad 0), .int p0, .int p1] : List Value).toArray below meth c H locs 0 0 Q (F0 m 20 ls [.int z0_20, .ref (ad 0)]) := by
    intro z0_20 H locs ls h hP hD hS hl
    subst ej20_3
    obtain ⟨y4, hc5, h⟩ := gx_bind h
    refine cc_iV (As := [.int z0_20]) (rest := []) ⟨hx, hb, hml, hown, hts⟩ (k_X10_holds l D cI cZ ad u z0_20 hc5) (cwV 1 hts (gwV mw_976 mw_978 mw_24 mw_59 mw_979) rfl rfl rfl (by decide +kernel) ⟨Nat.le_of_ble_eq_true rfl, Nat.le_of_ble_eq_true rfl⟩) hK hP hD hS hA hZ (ci := 10) (q0 := 0) rfl rfl rfl hl.1 rfl (Nat.le_of_ble_eq_true rfl) dX10_way_20 ⟨Nat.zero_le _, Nat.zero_le _⟩ (fun H locs hP hD hS => ?_)
    refine lv_if_eq (tgt := 35) hx hb dX10_way_23 (by decide) (fun c6 => ?_) (fun c6 => ?_)
    · replace h := gx_t c6 h
      refine lv_iconst (v := 0) hx hb dX10_way_35 (by decide) ?_
      cases h
      exact cc_ret hx hb hr rfl hQ hK hP hD hS rfl dX10_way_36 hlocks
    · replace h := gx_f c6 h
      refine lv_aload_n hx hb dX10_way_26 rfl (lv_at hl 0 rfl) ?_
      refine lv_iload_n hx hb dX10_way_27 rfl (lv_at hl 1 rfl) ?_
      refine lv_iload_n hx hb dX10_way_28 rfl (lv_at hl 2 rfl) ?_
      obtain ⟨y7, hc8, h⟩ := gx_bind h
      refine cc_iV (As := [.int p0, .int p1]) (rest := []) ⟨hx, hb, hml, hown, hts⟩ (k_X10_wayOf l D cI cZ ad y4.2 p0 p1 hc8) (cwV 2 hts (gwV mw_1133 mw_1135 mw_42 mw_59 mw_1136) rfl rfl rfl (by decide +kernel) ⟨Nat.le_of_ble_eq_true rfl, Nat.le_of_ble_eq_true rfl⟩) hK hP hD hS hA hZ (ci := 10) (q0 := 0) rfl rfl rfl hl.1 rfl (Nat.le_of_ble_eq_true rfl) dX10_way_29 ⟨Nat.zero_le _, Nat.zero_le _⟩ (fun H locs hP hD hS => ?_)
      refine lv_goto (tgt := 36) hx hb dX10_way_32 (by decide) ?_
      cases h
      exact cc_ret hx hb hr rfl hQ hK hP hD hS rfl dX10_way_36 hlocks
  obtain ⟨j19_9, ej19_9, h⟩ := gx_let h
  have hj19_9 : ∀ (H : Heap) (locs : List Loc) (ls : Array Slot), j19_9 () = some (r, w') → va_P D vwCl (wM cI cZ ad u) H → va_D A (wM cI cZ ad u) → va_S A s.heap H locs → lv_has ls 3 [(0, .ref (ad 0)), (1, .int p0), (2, .int p1)] → W p l e rX10_way s m ([.ref (ad 0), .int p0, .int p1] : List Value).toArray below meth c H locs 0 0 Q (F0 m 19 ls [.ref (ad 0)]) := by
    intro  H locs ls h hP hD hS hl
    subst ej19_9
    refine lv_iconst (v := 1) hx hb dX10_way_19 (by decide) ?_
    exact hj20_3 (1 : Int32) _ _ _ h hP hD hS (lv_sub hl [0, 1, 2] rfl)
  refine lv_if_eq (tgt := 19) hx hb dX10_way_5 (by decide) (fun c10 => ?_) (fun c10 => ?_)
  · replace h := gx_t c10 h
    exact hj19_9 _ _ _ h hP hD hS (lv_sub hl [0, 1, 2] rfl)
  · replace h := gx_f c10 h
    refine lv_iload_n hx hb dX10_way_8 rfl (lv_at hl 2 rfl) ?_
    obtain ⟨y11, hc12, h⟩ := gx_bind h
    refine cc_iS (As := [.int p1]) (rest := [.ref (ad 0)]) ⟨hx, hb, hml, hown, hts⟩ (k_X10_isSection l D cI cZ ad u p1 hc12) (va_cwS 1 hts (gwS mw_1039 mw_1040 mw_59 mw_1041) rfl rfl rfl (by decide +kernel) ⟨Nat.le_of_ble_eq_true rfl, Nat.le_of_ble_eq_true rfl⟩) hK hP hD hS hA hZ rfl hl.1 rfl (Nat.le_of_ble_eq_true rfl) dX10_way_9 ⟨Nat.zero_le _, Nat.zero_le _⟩ (fun H locs hP hD hS => ?_)
    refine lv_if_eq (tgt := 19) hx hb dX10_way_12 (by decide) (fun c13 => ?_) (fun c13 => ?_)
    · replace h := gx_t c13 h
      exact hj19_9 _ _ _ h hP hD hS (lv_sub hl [0, 1, 2] rfl)
    · replace h := gx_f c13 h
      refine lv_iconst (v := 0) hx hb dX10_way_15 (by decide) ?_
      refine lv_goto (tgt := 20) hx hb dX10_way_16 (by decide) ?_
      exact hj20_3 (0 : Int32) _ _ _ h hP hD hS (lv_sub hl [0, 1, 2] rfl)

def rX10_send : Room := { frames := 2, cells := 0, slots := 0, locals := 48 }
set_option maxHeartbeats 4000000 in
set_option maxRecDepth 100000 in
theorem k_X10_send (l : Launch) (D : va_G) (cI cZ : ClassId) (ad : Nat → Nat) (u : MS) (p0 : Int32) (p1 : Int32) {r : Int32} {w' : MS} (h : g_X10_send u p0 p1 = some (r, w')) : MI l yX10_send (wm yX10_send cX10_send 4 (some .int)) rX10_send D [(cI, .int), (cZ, .boolean)] (wM cI cZ ad u) (wM cI cZ ad w') [.ref (ad 0), .int p0, .int p1] r := by
  intro sz
  refine Met.ofW (cc := cX10_send) (maxL := 4) (ret := (some .int)) (by decide) rfl ?_
  intro p e s m args below meth c s₁ B hml hv
  obtain ⟨rfl, hsz, hP, hK, hD0, hZ⟩ := hv
  have hx := B.exec
  have hb := B.bytes
  have hr := B.returns
  have hts : ∀ w ∈ Wall, w.before _ s = true := fun w hw => atoms_spec (ws := wm yX10_send cX10_send 4 (some .int)) B.pre w (List.mem_cons_of_mem _ hw)
  have hown : s.vm.findClass RX10 = some m.cls := findClass_of_methodNamed B.named
  have hlocks := B.notSynchronized
  subst hsz
  have hD := hD0.self (sz := s.heap.size)
  generalize hAe : va_A (wM cI cZ ad u) s.heap.size = A at hD hZ ⊢
  have hA : ∀ q : Nat, s.heap.size ≤ q → A q := fun q h => by rw [← hAe]; exact Or.inr h
  have hS : va_S A s.heap s.heap [] := va_S.rf
  have hf56 := hts _ mw_894
  have hf59 := hts _ mw_895
  have hf47 := hts _ mw_891
  have hf50 := hts _ mw_892
  have hl := lv_entry ([.ref (ad 0), .int p0, .int p1]) (n := 4) (Nat.le_of_ble_eq_true rfl)
  rw [lg_entry_eq]
  generalize (lg_sl ([.ref (ad 0), .int p0, .int p1]) ++ List.replicate (4 - (lg_sl ([.ref (ad 0), .int p0, .int p1])).length) Slot.unset).toArray = ls at hl ⊢
  replace hl : lv_has ls 4 [(0, .ref (ad 0)), (1, .int p0), (2, .int p1)] := hl
  refine w_gen (fun Q hQ => ?_)
  refine lv_iload_n hx hb dX10_send_0 rfl (lv_at hl 1 rfl) ?_
  obtain ⟨y1, hc2, h⟩ := gx_bind h
  refine cc_iS (As := [.int p0]) (rest := []) ⟨hx, hb, hml, hown, hts⟩ (k_X10_isPatrol l D cI cZ ad u p0 hc2) (va_cwS 1 hts (gwS mw_1130 mw_1131 mw_59 mw_1132) rfl rfl rfl (by decide +kernel) ⟨Nat.le_of_ble_eq_true rfl, Nat.le_of_ble_eq_true rfl⟩) hK hP hD hS hA hZ rfl hl.1 rfl (Nat.le_of_ble_eq_true rfl) dX10_send_1 ⟨Nat.zero_le _, Nat.zero_le _⟩ (fun H locs hP hD hS => ?_)
  obtain ⟨j20_3, ej20_3, h⟩ := gx_let h
  have hj20_3 : ∀ (z0_20 : Int32) (H : Heap) (locs : List Loc) (ls : Array Slot), j20_3 z0_20 = some (r, w') → va_P D vwCl (wM cI cZ ad u) H → va_D A (wM cI cZ ad u) → va_S A s.heap H locs → lv_has ls 4 [(0, .ref (ad 0)), (1, .int p0), (2, .int p1)] → W p l e rX10_send s m ([.ref (ad 0), .int p0, .int p1] : List Value).toArray below meth c H locs 0 0 Q (F0 m 20 ls [.int z0_20]) := by
    intro z0_20 H locs ls h hP hD hS hl
    subst ej20_3
    refine lv_istore_n (lv' := [(3, .int z0_20), (0, .ref (ad 0)), (1, .int p0), (2, .int p1)]) hx hb dX10_send_20 rfl hl (by decide) rfl (fun ls hl => ?_)
    refine lv_aload_n hx hb dX10_send_21 rfl (lv_at hl 1 rfl) ?_
    refine lv_iload_n hx hb dX10_send_22 rfl (lv_at hl 0 rfl) ?_
    obtain ⟨j64_4, ej64_4, h⟩ := gx_let h
    have hj64_4 : ∀ (z0_64 : Int32) (H : Heap) (locs : List Loc) (ls : Array Slot), j64_4 z0_64 = some (r, w') → va_P D vwCl (wM cI cZ ad u) H → va_D A (wM cI cZ ad u) → va_S A s.heap H locs → lv_has ls 4 [(0, .ref (ad 0)), (1, .int p0), (2, .int p1)] → W p l e rX10_send s m ([.ref (ad 0), .int p0, .int p1] : List Value).toArray below meth c H locs 0 0 Q (F0 m 64 ls [.int z0_64, .ref (ad 0)]) := by
      intro z0_64 H locs ls h hP hD hS hl
      subst ej64_4
      obtain ⟨y5, hc6, h⟩ := gx_bind h
      refine cc_iV (As := [.int z0_64]) (rest := []) ⟨hx, hb, hml, hown, hts⟩ (k_X10_holds l D cI cZ ad u z0_64 hc6) (cwV 1 hts (gwV mw_976 mw_978 mw_24 mw_59 mw_979) rfl rfl rfl (by decide +kernel) ⟨Nat.le_of_ble_eq_true rfl, Nat.le_of_ble_eq_true rfl⟩) hK hP hD hS hA hZ (ci := 10) (q0 := 0) rfl rfl rfl hl.1 rfl (Nat.le_of_ble_eq_true rfl) dX10_send_64 ⟨Nat.zero_le _, Nat.zero_le _⟩ (fun H locs hP hD hS => ?_)
      refine lv_if_ne (tgt := 72) hx hb dX10_send_67 (by decide) (fun c7 => ?_) (fun c7 => ?_)
      · replace h := gx_f c7 h
        refine lv_aload_n hx hb dX10_send_72 rfl (lv_at hl 0 rfl) ?_
        refine va_get (D := D) (ci := 10) (v := .ref (ad 16)) (C := RX10) (T := TX10) (N := 32) hx hb hts iX10 hown hK hP 0 rfl rfl 23 (by decide) hf56 (fun _ h9 => h9) rfl dX10_send_73 ?_
        refine lv_iload_n hx hb dX10_send_76 rfl (lv_at hl 1 rfl) ?_
        refine lv_iload_n hx hb dX10_send_77 rfl (lv_at hl 2 rfl) ?_
        obtain ⟨b8, h⟩ := gx_in h
        refine va_iast (D := D) hx hb hK hP hD hS 16 0 rfl rfl b8 dX10_send_78 (fun H locs hP hD hS => ?_)
        obtain ⟨u9, eu9, h⟩ := gx_let h
        replace hP : va_P D vwCl (wM cI cZ ad u9) H := by rw [← eu9]; exact hP
        replace hD : va_D A (wM cI cZ ad u9) := by rw [← eu9]; exact hD
        refine lv_aload_n hx hb dX10_send_79 rfl (lv_at hl 0 rfl) ?_
        refine va_get (D := D) (ci := 10) (v := .ref (ad 17)) (C := RX10) (T := TX10) (N := 32) hx hb hts iX10 hown hK hP 0 rfl rfl 24 (by decide) hf59 (fun _ h9 => h9) rfl dX10_send_80 ?_
        refine lv_iload_n hx hb dX10_send_83 rfl (lv_at hl 1 rfl) ?_
        refine lv_aload_n hx hb dX10_send_84 rfl (lv_at hl 0 rfl) ?_
        refine lv_iload_n hx hb dX10_send_85 rfl (lv_at hl 1 rfl) ?_
        refine lv_aload_n hx hb dX10_send_86 rfl (lv_at hl 0 rfl) ?_
        refine va_get (D := D) (ci := 10) (v := .ref (ad 13)) (C := RX10) (T := TX10) (N := 32) hx hb hts iX10 hown hK hP 0 rfl rfl 20 (by decide) hf47 (fun _ h9 => h9) rfl dX10_send_87 ?_
        refine lv_iload_n hx hb dX10_send_90 rfl (lv_at hl 2 rfl) ?_
        obtain ⟨b10, h⟩ := gx_in h
        refine va_iald (D := D) hx hb hK hP 13 0 rfl rfl b10 dX10_send_91 ?_
        refine lv_iconst (v := 4) hx hb dX10_send_92 (by decide) ?_
        refine lv_idiv hx hb dX10_send_93 (by decide) ?_
        obtain ⟨y11, hc12, h⟩ := gx_bind h
        refine cc_iV (As := [.int p0, .int ((mI_placed u9 p1.toNatClampNeg) / (4 : Int32))]) (rest := [.int p0, .ref (ad 17)]) ⟨hx, hb, hml, hown, hts⟩ (k_X10_wayOf l D cI cZ ad u9 p0 ((mI_placed u9 p1.toNatClampNeg) / (4 : Int32)) hc12) (cwV 2 hts (gwV mw_1133 mw_1135 mw_42 mw_59 mw_1136) rfl rfl rfl (by decide +kernel) ⟨Nat.le_of_ble_eq_true rfl, Nat.le_of_ble_eq_true rfl⟩) hK hP hD hS hA hZ (ci := 10) (q0 := 0) rfl rfl rfl hl.1 rfl (Nat.le_of_ble_eq_true rfl) dX10_send_94 ⟨Nat.zero_le _, Nat.zero_le _⟩ (fun H locs hP hD hS => ?_)
        refine lv_iconst (v := 5) hx hb dX10_send_97 (by decide) ?_
        refine lv_iadd hx hb dX10_send_98 ?_
        obtain ⟨b13, h⟩ := gx_in h
        refine va_iast (D := D) hx hb hK hP hD hS 17 0 rfl rfl b13 dX10_send_99 (fun H locs hP hD hS => ?_)
        obtain ⟨u14, eu14, h⟩ := gx_let h
        replace hP : va_P D vwCl (wM cI cZ ad u14) H := by rw [← eu14]; exact hP
        replace hD : va_D A (wM cI cZ ad u14) := by rw [← eu14]; exact hD
        refine lv_aload_n hx hb dX10_send_100 rfl (lv_at hl 0 rfl) ?_
        refine va_get (D := D) (ci := 10) (v := .ref (ad 17)) (C := RX10) (T := TX10) (N := 32) hx hb hts iX10 hown hK hP 0 rfl rfl 24 (by decide) hf59 (fun _ h9 => h9) rfl dX10_send_101 ?_
        refine lv_iload_n hx hb dX10_send_104 rfl (lv_at hl 1 rfl) ?_
        obtain ⟨b15, h⟩ := gx_in h
        refine va_iald (D := D) hx hb hK hP 17 0 rfl rfl b15 dX10_send_105 ?_
        cases h
        exact cc_ret hx hb hr rfl hQ hK hP hD hS rfl dX10_send_106 hlocks
      · replace h := gx_t c7 h
        refine lv_iconst (v := 0) hx hb dX10_send_70 (by decide) ?_
        cases h
        exact cc_ret hx hb hr rfl hQ hK hP hD hS rfl dX10_send_71 hlocks
    refine lv_if_ne (tgt := 30) hx hb dX10_send_23 (by decide) (fun c16 => ?_) (fun c16 => ?_)
    · replace h := gx_f c16 h
      refine lv_aload_n hx hb dX10_send_30 rfl (lv_at hl 1 rfl) ?_
      refine va_get (D := D) (ci := 10) (v := .ref (ad 16)) (C := RX10) (T := TX10) (N := 32) hx hb hts iX10 hown hK hP 0 rfl rfl 23 (by decide) hf56 (fun _ h9 => h9) rfl dX10_send_31 ?_
      refine lv_iload_n hx hb dX10_send_34 rfl (lv_at hl 2 rfl) ?_
      obtain ⟨b17, h⟩ := gx_in h
      refine va_iald (D := D) hx hb hK hP 16 0 rfl rfl b17 dX10_send_35 ?_
      refine lv_iconst (v := (-1)) hx hb dX10_send_36 (by decide) ?_
      obtain ⟨j59_18, ej59_18, h⟩ := gx_let h
      have hj59_18 : ∀ (H : Heap) (locs : List Loc) (ls : Array Slot), j59_18 () = some (r, w') → va_P D vwCl (wM cI cZ ad u) H → va_D A (wM cI cZ ad u) → va_S A s.heap H locs → lv_has ls 4 [(0, .ref (ad 0)), (1, .int p0), (2, .int p1)] → W p l e rX10_send s m ([.ref (ad 0), .int p0, .int p1] : List Value).toArray below meth c H locs 0 0 Q (F0 m 59 ls [.ref (ad 0)]) := by
        intro  H locs ls h hP hD hS hl
        subst ej59_18
        refine lv_iconst (v := 2) hx hb dX10_send_59 (by decide) ?_
        refine lv_goto (tgt := 64) hx hb dX10_send_60 (by decide) ?_
        exact hj64_4 (2 : Int32) _ _ _ h hP hD hS (lv_sub hl [0, 1, 2] rfl)
      refine lv_icmp_ne (tgt := 59) hx hb dX10_send_37 (by decide) (fun c19 => ?_) (fun c19 => ?_)
      · replace h := gx_f c19 h
        exact hj59_18 _ _ _ h hP hD hS (lv_sub hl [1, 2, 3] rfl)
      · replace h := gx_t c19 h
        refine lv_aload_n hx hb dX10_send_40 rfl (lv_at hl 1 rfl) ?_
        refine va_get (D := D) (ci := 10) (v := .ref (ad 14)) (C := RX10) (T := TX10) (N := 32) hx hb hts iX10 hown hK hP 0 rfl rfl 21 (by decide) hf50 (fun _ h9 => h9) rfl dX10_send_41 ?_
        refine lv_iload_n hx hb dX10_send_44 rfl (lv_at hl 3 rfl) ?_
        obtain ⟨b20, h⟩ := gx_in h
        refine va_iald (D := D) hx hb hK hP 14 0 rfl rfl b20 dX10_send_45 ?_
        refine lv_iconst (v := 1) hx hb dX10_send_46 (by decide) ?_
        refine lv_icmp_ne (tgt := 59) hx hb dX10_send_47 (by decide) (fun c21 => ?_) (fun c21 => ?_)
        · replace h := gx_f c21 h
          exact hj59_18 _ _ _ h hP hD hS (lv_sub hl [1, 2, 3] rfl)
        · replace h := gx_t c21 h
          refine lv_aload_n hx hb dX10_send_50 rfl (lv_at hl 1 rfl) ?_
          refine lv_iload_n hx hb dX10_send_51 rfl (lv_at hl 3 rfl) ?_
          obtain ⟨y22, hc23, h⟩ := gx_bind h
          refine cc_iV (As := [.int p1]) (rest := [.ref (ad 0)]) ⟨hx, hb, hml, hown, hts⟩ (k_X10_patrolOf l D cI cZ ad u p1 hc23) (cwV 1 hts (gwV mw_1118 mw_1120 mw_41 mw_59 mw_1121) rfl rfl rfl (by decide +kernel) ⟨Nat.le_of_ble_eq_true rfl, Nat.le_of_ble_eq_true rfl⟩) hK hP hD hS hA hZ (ci := 10) (q0 := 0) rfl rfl rfl hl.1 rfl (Nat.le_of_ble_eq_true rfl) dX10_send_52 ⟨Nat.zero_le _, Nat.zero_le _⟩ (fun H locs hP hD hS => ?_)
          refine lv_iconst (v := (-1)) hx hb dX10_send_55 (by decide) ?_
          refine lv_icmp_eq (tgt := 63) hx hb dX10_send_56 (by decide) (fun c24 => ?_) (fun c24 => ?_)
          · replace h := gx_t c24 h
            refine lv_iconst (v := 0) hx hb dX10_send_63 (by decide) ?_
            exact hj64_4 (0 : Int32) _ _ _ h hP hD hS (lv_sub hl [1, 2, 3] rfl)
          · replace h := gx_f c24 h
            exact hj59_18 _ _ _ h hP hD hS (lv_sub hl [1, 2, 3] rfl)
    · replace h := gx_t c16 h
      refine lv_iconst (v := 1) hx hb dX10_send_26 (by decide) ?_
      refine lv_goto (tgt := 64) hx hb dX10_send_27 (by decide) ?_
      exact hj64_4 (1 : Int32) _ _ _ h hP hD hS (lv_sub hl [1, 2, 3] rfl)
  obtain ⟨j19_25, ej19_25, h⟩ := gx_let h
  have hj19_25 : ∀ (H : Heap) (locs : List Loc) (ls : Array Slot), j19_25 () = some (r, w') → va_P D vwCl (wM cI cZ ad u) H → va_D A (wM cI cZ ad u) → va_S A s.heap H locs → lv_has ls 4 [(0, .ref (ad 0)), (1, .int p0), (2, .int p1)] → W p l e rX10_send s m ([.ref (ad 0), .int p0, .int p1] : List Value).toArray below meth c H locs 0 0 Q (F0 m 19 ls []) := by
    intro  H locs ls h hP hD hS hl
    subst ej19_25
    refine lv_iconst (v := 0) hx hb dX10_send_19 (by decide) ?_
    exact hj20_3 (0 : Int32) _ _ _ h hP hD hS (lv_sub hl [0, 1, 2] rfl)
  refine lv_if_eq (tgt := 19) hx hb dX10_send_4 (by decide) (fun c26 => ?_) (fun c26 => ?_)
  · replace h := gx_t c26 h
    exact hj19_25 _ _ _ h hP hD hS (lv_sub hl [0, 1, 2] rfl)
  · replace h := gx_f c26 h
    refine lv_aload_n hx hb dX10_send_7 rfl (lv_at hl 0 rfl) ?_
    refine lv_iload_n hx hb dX10_send_8 rfl (lv_at hl 2 rfl) ?_
    obtain ⟨y27, hc28, h⟩ := gx_bind h
    refine cc_iV (As := [.int p1]) (rest := []) ⟨hx, hb, hml, hown, hts⟩ (k_X10_isIncident l D cI cZ ad u p1 hc28) (cwV 1 hts (gwV mw_1110 mw_1112 mw_40 mw_59 mw_1113) rfl rfl rfl (by decide +kernel) ⟨Nat.le_of_ble_eq_true rfl, Nat.le_of_ble_eq_true rfl⟩) hK hP hD hS hA hZ (ci := 10) (q0 := 0) rfl rfl rfl hl.1 rfl (Nat.le_of_ble_eq_true rfl) dX10_send_9 ⟨Nat.zero_le _, Nat.zero_le _⟩ (fun H locs hP hD hS => ?_)
    refine lv_if_eq (tgt := 19) hx hb dX10_send_12 (by decide) (fun c29 => ?_) (fun c29 => ?_)
    · replace h := gx_t c29 h
      exact hj19_25 _ _ _ h hP hD hS (lv_sub hl [0, 1, 2] rfl)
    · replace h := gx_f c29 h
      refine lv_iconst (v := 1) hx hb dX10_send_15 (by decide) ?_
      refine lv_goto (tgt := 20) hx hb dX10_send_16 (by decide) ?_
      exact hj20_3 (1 : Int32) _ _ _ h hP hD hS (lv_sub hl [0, 1, 2] rfl)

def rX10_patrol : Room := { frames := 2, cells := 0, slots := 0, locals := 42 }
set_option maxHeartbeats 4000000 in
set_option maxRecDepth 100000 in
theorem k_X10_patrol (l : Launch) (D : va_G) (cI cZ : ClassId) (ad : Nat → Nat) (u : MS) (p0 : Int32) (p1 : Int32) {r : Int32} {w' : MS} (h : g_X10_patrol u p0 p1 = some (r, w')) : MI l yX10_patrol (wm yX10_patrol cX10_patrol 3 (some .int)) rX10_patrol D [(cI, .int), (cZ, .boolean)] (wM cI cZ ad u) (wM cI cZ ad w') [.ref (ad 0), .int p0, .int p1] r := by
  intro sz
  refine Met.ofW (cc := cX10_patrol) (maxL := 3) (ret := (some .int)) (by decide) rfl ?_
  intro p e s m args below meth c s₁ B hml hv
  obtain ⟨rfl, hsz, hP, hK, hD0, hZ⟩ := hv
  have hx := B.exec
  have hb := B.bytes
  have hr := B.returns
  have hts : ∀ w ∈ Wall, w.before _ s = true := fun w hw => atoms_spec (ws := wm yX10_patrol cX10_patrol 3 (some .int)) B.pre w (List.mem_cons_of_mem _ hw)
  have hown : s.vm.findClass RX10 = some m.cls := findClass_of_methodNamed B.named
  have hlocks := B.notSynchronized
  subst hsz
  have hD := hD0.self (sz := s.heap.size)
  generalize hAe : va_A (wM cI cZ ad u) s.heap.size = A at hD hZ ⊢
  have hA : ∀ q : Nat, s.heap.size ≤ q → A q := fun q h => by rw [← hAe]; exact Or.inr h
  have hS : va_S A s.heap s.heap [] := va_S.rf
  have hf56 := hts _ mw_894
  have hf59 := hts _ mw_895
  have hf53 := hts _ mw_893
  have hl := lv_entry ([.ref (ad 0), .int p0, .int p1]) (n := 3) (Nat.le_of_ble_eq_true rfl)
  rw [lg_entry_eq]
  generalize (lg_sl ([.ref (ad 0), .int p0, .int p1]) ++ List.replicate (3 - (lg_sl ([.ref (ad 0), .int p0, .int p1])).length) Slot.unset).toArray = ls at hl ⊢
  replace hl : lv_has ls 3 [(0, .ref (ad 0)), (1, .int p0), (2, .int p1)] := hl
  refine w_gen (fun Q hQ => ?_)
  refine lv_aload_n hx hb dX10_patrol_0 rfl (lv_at hl 0 rfl) ?_
  refine lv_iload_n hx hb dX10_patrol_1 rfl (lv_at hl 1 rfl) ?_
  obtain ⟨y1, hc2, h⟩ := gx_bind h
  refine cc_iS (As := [.int p0]) (rest := [.ref (ad 0)]) ⟨hx, hb, hml, hown, hts⟩ (k_X10_isPatrol l D cI cZ ad u p0 hc2) (va_cwS 1 hts (gwS mw_1130 mw_1131 mw_59 mw_1132) rfl rfl rfl (by decide +kernel) ⟨Nat.le_of_ble_eq_true rfl, Nat.le_of_ble_eq_true rfl⟩) hK hP hD hS hA hZ rfl hl.1 rfl (Nat.le_of_ble_eq_true rfl) dX10_patrol_2 ⟨Nat.zero_le _, Nat.zero_le _⟩ (fun H locs hP hD hS => ?_)
  obtain ⟨j26_3, ej26_3, h⟩ := gx_let h
  have hj26_3 : ∀ (z0_26 : Int32) (H : Heap) (locs : List Loc) (ls : Array Slot), j26_3 z0_26 = some (r, w') → va_P D vwCl (wM cI cZ ad u) H → va_D A (wM cI cZ ad u) → va_S A s.heap H locs → lv_has ls 3 [(0, .ref (ad 0)), (1, .int p0), (2, .int p1)] → W p l e rX10_patrol s m ([.ref (ad 0), .int p0, .int p1] : List Value).toArray below meth c H locs 0 0 Q (F0 m 26 ls [.int z0_26, .ref (ad 0)]) := by
    intro z0_26 H locs ls h hP hD hS hl
    subst ej26_3
    obtain ⟨y4, hc5, h⟩ := gx_bind h
    refine cc_iV (As := [.int z0_26]) (rest := []) ⟨hx, hb, hml, hown, hts⟩ (k_X10_holds l D cI cZ ad u z0_26 hc5) (cwV 1 hts (gwV mw_976 mw_978 mw_24 mw_59 mw_979) rfl rfl rfl (by decide +kernel) ⟨Nat.le_of_ble_eq_true rfl, Nat.le_of_ble_eq_true rfl⟩) hK hP hD hS hA hZ (ci := 10) (q0 := 0) rfl rfl rfl hl.1 rfl (Nat.le_of_ble_eq_true rfl) dX10_patrol_26 ⟨Nat.zero_le _, Nat.zero_le _⟩ (fun H locs hP hD hS => ?_)
    refine lv_if_ne (tgt := 34) hx hb dX10_patrol_29 (by decide) (fun c6 => ?_) (fun c6 => ?_)
    · replace h := gx_f c6 h
      refine lv_iload_n hx hb dX10_patrol_34 rfl (lv_at hl 2 rfl) ?_
      refine lv_if_ne (tgt := 47) hx hb dX10_patrol_35 (by decide) (fun c7 => ?_) (fun c7 => ?_)
      · replace h := gx_f c7 h
        refine lv_iload_n hx hb dX10_patrol_47 rfl (lv_at hl 2 rfl) ?_
        refine lv_iconst (v := 1) hx hb dX10_patrol_48 (by decide) ?_
        refine lv_icmp_ne (tgt := 61) hx hb dX10_patrol_49 (by decide) (fun c8 => ?_) (fun c8 => ?_)
        · replace h := gx_f c8 h
          refine lv_aload_n hx hb dX10_patrol_61 rfl (lv_at hl 0 rfl) ?_
          refine va_get (D := D) (ci := 10) (v := .ref (ad 16)) (C := RX10) (T := TX10) (N := 32) hx hb hts iX10 hown hK hP 0 rfl rfl 23 (by decide) hf56 (fun _ h9 => h9) rfl dX10_patrol_62 ?_
          refine lv_iload_n hx hb dX10_patrol_65 rfl (lv_at hl 1 rfl) ?_
          obtain ⟨b9, h⟩ := gx_in h
          refine va_iald (D := D) hx hb hK hP 16 0 rfl rfl b9 dX10_patrol_66 ?_
          refine lv_iconst (v := (-1)) hx hb dX10_patrol_67 (by decide) ?_
          refine lv_icmp_ne (tgt := 75) hx hb dX10_patrol_68 (by decide) (fun c10 => ?_) (fun c10 => ?_)
          · replace h := gx_f c10 h
            refine lv_aload_n hx hb dX10_patrol_75 rfl (lv_at hl 0 rfl) ?_
            refine va_get (D := D) (ci := 10) (v := .ref (ad 17)) (C := RX10) (T := TX10) (N := 32) hx hb hts iX10 hown hK hP 0 rfl rfl 24 (by decide) hf59 (fun _ h9 => h9) rfl dX10_patrol_76 ?_
            refine lv_iload_n hx hb dX10_patrol_79 rfl (lv_at hl 1 rfl) ?_
            obtain ⟨b11, h⟩ := gx_in h
            refine va_iald (D := D) hx hb hK hP 17 0 rfl rfl b11 dX10_patrol_80 ?_
            cases h
            exact cc_ret hx hb hr rfl hQ hK hP hD hS rfl dX10_patrol_81 hlocks
          · replace h := gx_t c10 h
            refine lv_iconst (v := 0) hx hb dX10_patrol_71 (by decide) ?_
            refine lv_goto (tgt := 81) hx hb dX10_patrol_72 (by decide) ?_
            cases h
            exact cc_ret hx hb hr rfl hQ hK hP hD hS rfl dX10_patrol_81 hlocks
        · replace h := gx_t c8 h
          refine lv_aload_n hx hb dX10_patrol_52 rfl (lv_at hl 0 rfl) ?_
          refine va_get (D := D) (ci := 10) (v := .ref (ad 16)) (C := RX10) (T := TX10) (N := 32) hx hb hts iX10 hown hK hP 0 rfl rfl 23 (by decide) hf56 (fun _ h9 => h9) rfl dX10_patrol_53 ?_
          refine lv_iload_n hx hb dX10_patrol_56 rfl (lv_at hl 1 rfl) ?_
          obtain ⟨b12, h⟩ := gx_in h
          refine va_iald (D := D) hx hb hK hP 16 0 rfl rfl b12 dX10_patrol_57 ?_
          refine lv_goto (tgt := 81) hx hb dX10_patrol_58 (by decide) ?_
          cases h
          exact cc_ret hx hb hr rfl hQ hK hP hD hS rfl dX10_patrol_81 hlocks
      · replace h := gx_t c7 h
        refine lv_aload_n hx hb dX10_patrol_38 rfl (lv_at hl 0 rfl) ?_
        refine va_get (D := D) (ci := 10) (v := .ref (ad 15)) (C := RX10) (T := TX10) (N := 32) hx hb hts iX10 hown hK hP 0 rfl rfl 22 (by decide) hf53 (fun _ h9 => h9) rfl dX10_patrol_39 ?_
        refine lv_iload_n hx hb dX10_patrol_42 rfl (lv_at hl 1 rfl) ?_
        obtain ⟨b13, h⟩ := gx_in h
        refine va_iald (D := D) hx hb hK hP 15 0 rfl rfl b13 dX10_patrol_43 ?_
        refine lv_goto (tgt := 81) hx hb dX10_patrol_44 (by decide) ?_
        cases h
        exact cc_ret hx hb hr rfl hQ hK hP hD hS rfl dX10_patrol_81 hlocks
    · replace h := gx_t c6 h
      refine lv_iconst (v := 0) hx hb dX10_patrol_32 (by decide) ?_
      cases h
      exact cc_ret hx hb hr rfl hQ hK hP hD hS rfl dX10_patrol_33 hlocks
  refine lv_if_ne (tgt := 12) hx hb dX10_patrol_5 (by decide) (fun c14 => ?_) (fun c14 => ?_)
  · replace h := gx_f c14 h
    refine lv_iload_n hx hb dX10_patrol_12 rfl (lv_at hl 2 rfl) ?_
    refine lv_iconst (v := 0) hx hb dX10_patrol_13 (by decide) ?_
    refine lv_iconst (v := 2) hx hb dX10_patrol_14 (by decide) ?_
    obtain ⟨y15, hc16, h⟩ := gx_bind h
    refine cc_iS (As := [.int p1, .int (0 : Int32), .int (2 : Int32)]) (rest := [.ref (ad 0)]) ⟨hx, hb, hml, hown, hts⟩ (k_X10_isIn l D cI cZ ad u p1 (0 : Int32) (2 : Int32) hc16) (va_cwS 3 hts (gwS mw_860 mw_861 mw_59 mw_862) rfl rfl rfl (by decide +kernel) ⟨Nat.le_of_ble_eq_true rfl, Nat.le_of_ble_eq_true rfl⟩) hK hP hD hS hA hZ rfl hl.1 rfl (Nat.le_of_ble_eq_true rfl) dX10_patrol_15 ⟨Nat.zero_le _, Nat.zero_le _⟩ (fun H locs hP hD hS => ?_)
    refine lv_if_eq (tgt := 25) hx hb dX10_patrol_18 (by decide) (fun c17 => ?_) (fun c17 => ?_)
    · replace h := gx_t c17 h
      refine lv_iconst (v := 2) hx hb dX10_patrol_25 (by decide) ?_
      exact hj26_3 (2 : Int32) _ _ _ h hP hD hS (lv_sub hl [0, 1, 2] rfl)
    · replace h := gx_f c17 h
      refine lv_iconst (v := 0) hx hb dX10_patrol_21 (by decide) ?_
      refine lv_goto (tgt := 26) hx hb dX10_patrol_22 (by decide) ?_
      exact hj26_3 (0 : Int32) _ _ _ h hP hD hS (lv_sub hl [0, 1, 2] rfl)
  · replace h := gx_t c14 h
    refine lv_iconst (v := 1) hx hb dX10_patrol_8 (by decide) ?_
    refine lv_goto (tgt := 26) hx hb dX10_patrol_9 (by decide) ?_
    exact hj26_3 (1 : Int32) _ _ _ h hP hD hS (lv_sub hl [0, 1, 2] rfl)

def rX10_areBooked : Room := { frames := 1, cells := 0, slots := 0, locals := 22 }
set_option maxHeartbeats 4000000 in
set_option maxRecDepth 100000 in
theorem k_X10_areBooked (l : Launch) (D : va_G) (cI cZ : ClassId) (ad : Nat → Nat) (u : MS) (p0 : Int32) (p1 : Int32) (p2 : Int32) {r : Int32} (h : g_X10_areBooked u p0 p1 p2 = some r) : MI l yX10_areBooked (wm yX10_areBooked cX10_areBooked 6 (some .boolean)) rX10_areBooked D [(cI, .int), (cZ, .boolean)] (wM cI cZ ad u) (wM cI cZ ad u) [.ref (ad 0), .int p0, .int p1, .int p2] r := by
  intro sz
  refine Met.ofW (cc := cX10_areBooked) (maxL := 6) (ret := (some .boolean)) (by decide) rfl ?_
  intro p e s m args below meth c s₁ B hml hv
  obtain ⟨rfl, hsz, hP, hK, hD0, hZ⟩ := hv
  have hx := B.exec
  have hb := B.bytes
  have hr := B.returns
  have hts : ∀ w ∈ Wall, w.before _ s = true := fun w hw => atoms_spec (ws := wm yX10_areBooked cX10_areBooked 6 (some .boolean)) B.pre w (List.mem_cons_of_mem _ hw)
  have hown : s.vm.findClass RX10 = some m.cls := findClass_of_methodNamed B.named
  have hlocks := B.notSynchronized
  subst hsz
  have hD := hD0.self (sz := s.heap.size)
  generalize hAe : va_A (wM cI cZ ad u) s.heap.size = A at hD hZ ⊢
  have hA : ∀ q : Nat, s.heap.size ≤ q → A q := fun q h => by rw [← hAe]; exact Or.inr h
  have hS : va_S A s.heap s.heap [] := va_S.rf
  have hf98 := hts _ mw_896
  have hf62 := hts _ mw_897
  have hf65 := hts _ mw_898
  have hf68 := hts _ mw_899
  have hf71 := hts _ mw_900
  have hf74 := hts _ mw_901
  have hl := lv_entry ([.ref (ad 0), .int p0, .int p1, .int p2]) (n := 6) (Nat.le_of_ble_eq_true rfl)
  rw [lg_entry_eq]
  generalize (lg_sl ([.ref (ad 0), .int p0, .int p1, .int p2]) ++ List.replicate (6 - (lg_sl ([.ref (ad 0), .int p0, .int p1, .int p2])).length) Slot.unset).toArray = ls at hl ⊢
  replace hl : lv_has ls 6 [(0, .ref (ad 0)), (1, .int p0), (2, .int p1), (3, .int p2)] := hl
  refine w_gen (fun Q hQ => ?_)
  refine lv_iconst (v := 0) hx hb dX10_areBooked_0 (by decide) ?_
  refine lv_istore (lv' := [(4, .int (0 : Int32)), (0, .ref (ad 0)), (1, .int p0), (2, .int p1), (3, .int p2)]) hx hb dX10_areBooked_1 hl (by decide) rfl (fun ls hl => ?_)
  refine lv_iconst (v := 0) hx hb dX10_areBooked_3 (by decide) ?_
  refine lv_istore (lv' := [(5, .int (0 : Int32)), (4, .int (0 : Int32)), (0, .ref (ad 0)), (1, .int p0), (2, .int p1), (3, .int p2)]) hx hb dX10_areBooked_4 hl (by decide) rfl (fun ls hl => ?_)
  have hL6 : ∀ (k : Int32 → Option (Int32)) (hk : ∀ (x4_6 : Int32) (H : Heap) (locs : List Loc) (ls : Array Slot), k x4_6 = some r → va_P D vwCl (wM cI cZ ad u) H → va_D A (wM cI cZ ad u) → va_S A s.heap H locs → lv_has ls 6 [(4, .int x4_6)] → W p l e rX10_areBooked s m ([.ref (ad 0), .int p0, .int p1, .int p2] : List Value).toArray below meth c H locs 0 0 Q (F0 m 87 ls [])) (n : Nat) (x4_6 : Int32) (x5_6 : Int32) (H : Heap) (locs : List Loc) (ls : Array Slot), lp_X10_areBooked_6 u p0 p1 p2 k n x4_6 x5_6 = some r → va_P D vwCl (wM cI cZ ad u) H → va_D A (wM cI cZ ad u) → va_S A s.heap H locs → lv_has ls 6 [(0, .ref (ad 0)), (1, .int p0), (2, .int p1), (3, .int p2), (4, .int x4_6), (5, .int x5_6)] → W p l e rX10_areBooked s m ([.ref (ad 0), .int p0, .int p1, .int p2] : List Value).toArray below meth c H locs 0 0 Q (F0 m 6 ls []) := by
    intro k hk n
    induction n with
    | zero =>
      intro x4_6 x5_6 H locs ls h
      rw [lp_X10_areBooked_6] at h
      cases h
    | succ n ih =>
      intro x4_6 x5_6 H locs ls h hP hD hS hl
      rw [lp_X10_areBooked_6] at h
      refine lv_iload hx hb dX10_areBooked_6 (lv_at hl 5 rfl) ?_
      refine lv_aload_n hx hb dX10_areBooked_8 rfl (lv_at hl 0 rfl) ?_
      refine va_get (D := D) (ci := 10) (v := .int (mB_works u)) (C := RX10) (T := TX10) (N := 32) hx hb hts iX10 hown hK hP 0 rfl rfl 25 (by decide) hf98 (fun _ h9 => h9) rfl dX10_areBooked_9 ?_
      refine lv_icmp_ge (tgt := 87) hx hb dX10_areBooked_12 (by decide) (fun c1 => ?_) (fun c1 => ?_)
      · replace h := gx_t c1 h
        exact hk x4_6 _ _ _ h hP hD hS (lv_sub hl [4] rfl)
      · replace h := gx_f c1 h
        refine lv_iload hx hb dX10_areBooked_15 (lv_at hl 4 rfl) ?_
        obtain ⟨j79_2, ej79_2, h⟩ := gx_let h
        have hj79_2 : ∀ (z0_79 : Int32) (H : Heap) (locs : List Loc) (ls : Array Slot), j79_2 z0_79 = some r → va_P D vwCl (wM cI cZ ad u) H → va_D A (wM cI cZ ad u) → va_S A s.heap H locs → lv_has ls 6 [(0, .ref (ad 0)), (1, .int p0), (2, .int p1), (3, .int p2), (5, .int x5_6)] → W p l e rX10_areBooked s m ([.ref (ad 0), .int p0, .int p1, .int p2] : List Value).toArray below meth c H locs 0 0 Q (F0 m 79 ls [.int z0_79]) := by
          intro z0_79 H locs ls h hP hD hS hl
          subst ej79_2
          refine lv_istore (lv' := [(4, .int z0_79), (0, .ref (ad 0)), (1, .int p0), (2, .int p1), (3, .int p2), (5, .int x5_6)]) hx hb dX10_areBooked_79 hl (by decide) rfl (fun ls hl => ?_)
          obtain ⟨v3, ev3, h⟩ := gx_let h
          refine lv_iinc (v := v3) (lv' := [(5, .int v3), (4, .int z0_79), (0, .ref (ad 0)), (1, .int p0), (2, .int p1), (3, .int p2)]) hx hb dX10_areBooked_81 hl (k := 5) rfl (by rw [← ev3]; rfl) (by decide) rfl (fun ls hl => ?_)
          refine lv_goto (tgt := 6) hx hb dX10_areBooked_84 (by decide) ?_
          exact ih z0_79 v3 _ _ _ h hP hD hS (lv_sub hl [2, 3, 4, 5, 1, 0] rfl)
        obtain ⟨j74_4, ej74_4, h⟩ := gx_let h
        have hj74_4 : ∀ (H : Heap) (locs : List Loc) (ls : Array Slot), j74_4 () = some r → va_P D vwCl (wM cI cZ ad u) H → va_D A (wM cI cZ ad u) → va_S A s.heap H locs → lv_has ls 6 [(0, .ref (ad 0)), (1, .int p0), (2, .int p1), (3, .int p2), (5, .int x5_6)] → W p l e rX10_areBooked s m ([.ref (ad 0), .int p0, .int p1, .int p2] : List Value).toArray below meth c H locs 0 0 Q (F0 m 74 ls []) := by
          intro  H locs ls h hP hD hS hl
          subst ej74_4
          refine lv_iconst (v := 1) hx hb dX10_areBooked_74 (by decide) ?_
          refine lv_goto (tgt := 79) hx hb dX10_areBooked_75 (by decide) ?_
          exact hj79_2 (1 : Int32) _ _ _ h hP hD hS (lv_sub hl [0, 1, 2, 3, 4] rfl)
        refine lv_if_ne (tgt := 74) hx hb dX10_areBooked_17 (by decide) (fun c5 => ?_) (fun c5 => ?_)
        · replace h := gx_f c5 h
          exact hj74_4 _ _ _ h hP hD hS (lv_sub hl [0, 1, 2, 3, 5] rfl)
        · replace h := gx_t c5 h
          refine lv_aload_n hx hb dX10_areBooked_20 rfl (lv_at hl 0 rfl) ?_
          refine va_get (D := D) (ci := 10) (v := .ref (ad 18)) (C := RX10) (T := TX10) (N := 32) hx hb hts iX10 hown hK hP 0 rfl rfl 26 (by decide) hf62 (fun _ h9 => h9) rfl dX10_areBooked_21 ?_
          refine lv_iload hx hb dX10_areBooked_24 (lv_at hl 5 rfl) ?_
          obtain ⟨b6, h⟩ := gx_in h
          refine va_iald (D := D) hx hb hK hP 18 0 rfl rfl b6 dX10_areBooked_26 ?_
          refine lv_iload_n hx hb dX10_areBooked_27 rfl (lv_at hl 2 rfl) ?_
          obtain ⟨j78_7, ej78_7, h⟩ := gx_let h
          have hj78_7 : ∀ (H : Heap) (locs : List Loc) (ls : Array Slot), j78_7 () = some r → va_P D vwCl (wM cI cZ ad u) H → va_D A (wM cI cZ ad u) → va_S A s.heap H locs → lv_has ls 6 [(0, .ref (ad 0)), (1, .int p0), (2, .int p1), (3, .int p2), (5, .int x5_6)] → W p l e rX10_areBooked s m ([.ref (ad 0), .int p0, .int p1, .int p2] : List Value).toArray below meth c H locs 0 0 Q (F0 m 78 ls []) := by
            intro  H locs ls h hP hD hS hl
            subst ej78_7
            refine lv_iconst (v := 0) hx hb dX10_areBooked_78 (by decide) ?_
            exact hj79_2 (0 : Int32) _ _ _ h hP hD hS (lv_sub hl [0, 1, 2, 3, 4] rfl)
          refine lv_icmp_ne (tgt := 78) hx hb dX10_areBooked_28 (by decide) (fun c8 => ?_) (fun c8 => ?_)
          · replace h := gx_f c8 h
            exact hj78_7 _ _ _ h hP hD hS (lv_sub hl [0, 1, 2, 3, 5] rfl)
          · replace h := gx_t c8 h
            refine lv_iload_n hx hb dX10_areBooked_31 rfl (lv_at hl 1 rfl) ?_
            refine lv_aload_n hx hb dX10_areBooked_32 rfl (lv_at hl 0 rfl) ?_
            refine va_get (D := D) (ci := 10) (v := .ref (ad 19)) (C := RX10) (T := TX10) (N := 32) hx hb hts iX10 hown hK hP 0 rfl rfl 27 (by decide) hf65 (fun _ h9 => h9) rfl dX10_areBooked_33 ?_
            refine lv_iload hx hb dX10_areBooked_36 (lv_at hl 5 rfl) ?_
            obtain ⟨b9, h⟩ := gx_in h
            refine va_iald (D := D) hx hb hK hP 19 0 rfl rfl b9 dX10_areBooked_38 ?_
            refine lv_aload_n hx hb dX10_areBooked_39 rfl (lv_at hl 0 rfl) ?_
            refine va_get (D := D) (ci := 10) (v := .ref (ad 20)) (C := RX10) (T := TX10) (N := 32) hx hb hts iX10 hown hK hP 0 rfl rfl 28 (by decide) hf68 (fun _ h9 => h9) rfl dX10_areBooked_40 ?_
            refine lv_iload hx hb dX10_areBooked_43 (lv_at hl 5 rfl) ?_
            obtain ⟨b10, h⟩ := gx_in h
            refine va_iald (D := D) hx hb hK hP 20 0 rfl rfl b10 dX10_areBooked_45 ?_
            obtain ⟨y11, hc12, h⟩ := gx_bind h
            refine cc_iS (As := [.int p0, .int (mB_worksFrom u x5_6.toNatClampNeg), .int (mB_worksTo u x5_6.toNatClampNeg)]) (rest := []) ⟨hx, hb, hml, hown, hts⟩ (k_X10_isIn l D cI cZ ad u p0 (mB_worksFrom u x5_6.toNatClampNeg) (mB_worksTo u x5_6.toNatClampNeg) hc12) (va_cwS 3 hts (gwS mw_860 mw_861 mw_59 mw_862) rfl rfl rfl (by decide +kernel) ⟨Nat.le_of_ble_eq_true rfl, Nat.le_of_ble_eq_true rfl⟩) hK hP hD hS hA hZ rfl hl.1 rfl (Nat.le_of_ble_eq_true rfl) dX10_areBooked_46 ⟨Nat.zero_le _, Nat.zero_le _⟩ (fun H locs hP hD hS => ?_)
            refine lv_if_eq (tgt := 78) hx hb dX10_areBooked_49 (by decide) (fun c13 => ?_) (fun c13 => ?_)
            · replace h := gx_t c13 h
              exact hj78_7 _ _ _ h hP hD hS (lv_sub hl [0, 1, 2, 3, 5] rfl)
            · replace h := gx_f c13 h
              refine lv_iload_n hx hb dX10_areBooked_52 rfl (lv_at hl 3 rfl) ?_
              refine lv_aload_n hx hb dX10_areBooked_53 rfl (lv_at hl 0 rfl) ?_
              refine va_get (D := D) (ci := 10) (v := .ref (ad 21)) (C := RX10) (T := TX10) (N := 32) hx hb hts iX10 hown hK hP 0 rfl rfl 29 (by decide) hf71 (fun _ h9 => h9) rfl dX10_areBooked_54 ?_
              refine lv_iload hx hb dX10_areBooked_57 (lv_at hl 5 rfl) ?_
              obtain ⟨b14, h⟩ := gx_in h
              refine va_iald (D := D) hx hb hK hP 21 0 rfl rfl b14 dX10_areBooked_59 ?_
              refine lv_icmp_lt (tgt := 78) hx hb dX10_areBooked_60 (by decide) (fun c15 => ?_) (fun c15 => ?_)
              · replace h := gx_t c15 h
                exact hj78_7 _ _ _ h hP hD hS (lv_sub hl [0, 1, 2, 3, 5] rfl)
              · replace h := gx_f c15 h
                refine lv_iload_n hx hb dX10_areBooked_63 rfl (lv_at hl 3 rfl) ?_
                refine lv_aload_n hx hb dX10_areBooked_64 rfl (lv_at hl 0 rfl) ?_
                refine va_get (D := D) (ci := 10) (v := .ref (ad 22)) (C := RX10) (T := TX10) (N := 32) hx hb hts iX10 hown hK hP 0 rfl rfl 30 (by decide) hf74 (fun _ h9 => h9) rfl dX10_areBooked_65 ?_
                refine lv_iload hx hb dX10_areBooked_68 (lv_at hl 5 rfl) ?_
                obtain ⟨b16, h⟩ := gx_in h
                refine va_iald (D := D) hx hb hK hP 22 0 rfl rfl b16 dX10_areBooked_70 ?_
                refine lv_icmp_ge (tgt := 78) hx hb dX10_areBooked_71 (by decide) (fun c17 => ?_) (fun c17 => ?_)
                · replace h := gx_t c17 h
                  exact hj78_7 _ _ _ h hP hD hS (lv_sub hl [0, 1, 2, 3, 5] rfl)
                · replace h := gx_f c17 h
                  exact hj74_4 _ _ _ h hP hD hS (lv_sub hl [0, 1, 2, 3, 5] rfl)
  refine hL6 _ (fun x4_6 H locs ls h hP hD hS hl => ?_) FU (0 : Int32) (0 : Int32) _ _ _ h hP hD hS (lv_sub hl [2, 3, 4, 5, 1, 0] rfl)
  refine lv_iload hx hb dX10_areBooked_87 (lv_at hl 0 rfl) ?_
  obtain ⟨bo, h⟩ := gx_bo h
  cases h
  exact cc_ret hx hb hr bo hQ hK hP hD hS rfl dX10_areBooked_89 hlocks

def rX10_areTooMany : Room := { frames := 2, cells := 0, slots := 0, locals := 47 }
set_option maxHeartbeats 4000000 in
set_option maxRecDepth 100000 in
theorem k_X10_areTooMany (l : Launch) (D : va_G) (cI cZ : ClassId) (ad : Nat → Nat) (u : MS) (p0 : Int32) (p1 : Int32) (p2 : Int32) (p3 : Int32) (p4 : Int32) {r : Int32} (h : g_X10_areTooMany u p0 p1 p2 p3 p4 = some r) : MI l yX10_areTooMany (wm yX10_areTooMany cX10_areTooMany 11 (some .boolean)) rX10_areTooMany D [(cI, .int), (cZ, .boolean)] (wM cI cZ ad u) (wM cI cZ ad u) [.ref (ad 0), .int p0, .int p1, .int p2, .int p3, .int p4] r := by
  intro sz
  refine Met.ofW (cc := cX10_areTooMany) (maxL := 11) (ret := (some .boolean)) (by decide) rfl ?_
  intro p e s m args below meth c s₁ B hml hv
  obtain ⟨rfl, hsz, hP, hK, hD0, hZ⟩ := hv
  have hx := B.exec
  have hb := B.bytes
  have hr := B.returns
  have hts : ∀ w ∈ Wall, w.before _ s = true := fun w hw => atoms_spec (ws := wm yX10_areTooMany cX10_areTooMany 11 (some .boolean)) B.pre w (List.mem_cons_of_mem _ hw)
  have hown : s.vm.findClass RX10 = some m.cls := findClass_of_methodNamed B.named
  have hlocks := B.notSynchronized
  subst hsz
  have hD := hD0.self (sz := s.heap.size)
  generalize hAe : va_A (wM cI cZ ad u) s.heap.size = A at hD hZ ⊢
  have hA : ∀ q : Nat, s.heap.size ≤ q → A q := fun q h => by rw [← hAe]; exact Or.inr h
  have hS : va_S A s.heap s.heap [] := va_S.rf
  have hl := lv_entry ([.ref (ad 0), .int p0, .int p1, .int p2, .int p3, .int p4]) (n := 11) (Nat.le_of_ble_eq_true rfl)
  rw [lg_entry_eq]
  generalize (lg_sl ([.ref (ad 0), .int p0, .int p1, .int p2, .int p3, .int p4]) ++ List.replicate (11 - (lg_sl ([.ref (ad 0), .int p0, .int p1, .int p2, .int p3, .int p4])).length) Slot.unset).toArray = ls at hl ⊢
  replace hl : lv_has ls 11 [(0, .ref (ad 0)), (1, .int p0), (2, .int p1), (3, .int p2), (4, .int p3), (5, .int p4)] := hl
  refine w_gen (fun Q hQ => ?_)
  refine lv_iload_n hx hb dX10_areTooMany_0 rfl (lv_at hl 1 rfl) ?_
  refine lv_iconst (v := 1) hx hb dX10_areTooMany_1 (by decide) ?_
  obtain ⟨j10_1, ej10_1, h⟩ := gx_let h
  have hj10_1 : ∀ (z0_10 : Int32) (H : Heap) (locs : List Loc) (ls : Array Slot), j10_1 z0_10 = some r → va_P D vwCl (wM cI cZ ad u) H → va_D A (wM cI cZ ad u) → va_S A s.heap H locs → lv_has ls 11 [(0, .ref (ad 0)), (1, .int p0), (2, .int p1), (3, .int p2), (4, .int p3), (5, .int p4)] → W p l e rX10_areTooMany s m ([.ref (ad 0), .int p0, .int p1, .int p2, .int p3, .int p4] : List Value).toArray below meth c H locs 0 0 Q (F0 m 10 ls [.int z0_10]) := by
    intro z0_10 H locs ls h hP hD hS hl
    subst ej10_1
    refine lv_istore (lv' := [(6, .int z0_10), (0, .ref (ad 0)), (1, .int p0), (2, .int p1), (3, .int p2), (4, .int p3), (5, .int p4)]) hx hb dX10_areTooMany_10 hl (by decide) rfl (fun ls hl => ?_)
    refine lv_iload_n hx hb dX10_areTooMany_12 rfl (lv_at hl 2 rfl) ?_
    refine lv_iconst (v := 3) hx hb dX10_areTooMany_13 (by decide) ?_
    obtain ⟨j22_2, ej22_2, h⟩ := gx_let h
    have hj22_2 : ∀ (z0_22 : Int32) (H : Heap) (locs : List Loc) (ls : Array Slot), j22_2 z0_22 = some r → va_P D vwCl (wM cI cZ ad u) H → va_D A (wM cI cZ ad u) → va_S A s.heap H locs → lv_has ls 11 [(0, .ref (ad 0)), (2, .int p1), (3, .int p2), (4, .int p3), (5, .int p4), (6, .int z0_10)] → W p l e rX10_areTooMany s m ([.ref (ad 0), .int p0, .int p1, .int p2, .int p3, .int p4] : List Value).toArray below meth c H locs 0 0 Q (F0 m 22 ls [.int z0_22]) := by
      intro z0_22 H locs ls h hP hD hS hl
      subst ej22_2
      refine lv_istore (lv' := [(7, .int z0_22), (0, .ref (ad 0)), (2, .int p1), (3, .int p2), (4, .int p3), (5, .int p4), (6, .int z0_10)]) hx hb dX10_areTooMany_22 hl (by decide) rfl (fun ls hl => ?_)
      refine lv_iconst (v := 0) hx hb dX10_areTooMany_24 (by decide) ?_
      refine lv_istore (lv' := [(8, .int (0 : Int32)), (7, .int z0_22), (0, .ref (ad 0)), (2, .int p1), (3, .int p2), (4, .int p3), (5, .int p4), (6, .int z0_10)]) hx hb dX10_areTooMany_25 hl (by decide) rfl (fun ls hl => ?_)
      refine lv_iload_n hx hb dX10_areTooMany_27 rfl (lv_at hl 3 rfl) ?_
      refine lv_istore (lv' := [(9, .int p1), (8, .int (0 : Int32)), (7, .int z0_22), (0, .ref (ad 0)), (2, .int p1), (3, .int p2), (4, .int p3), (5, .int p4), (6, .int z0_10)]) hx hb dX10_areTooMany_28 hl (by decide) rfl (fun ls hl => ?_)
      have hL30 : ∀ (k : Int32 → Option (Int32)) (hk : ∀ (x8_30 : Int32) (H : Heap) (locs : List Loc) (ls : Array Slot), k x8_30 = some r → va_P D vwCl (wM cI cZ ad u) H → va_D A (wM cI cZ ad u) → va_S A s.heap H locs → lv_has ls 11 [(8, .int x8_30)] → W p l e rX10_areTooMany s m ([.ref (ad 0), .int p0, .int p1, .int p2, .int p3, .int p4] : List Value).toArray below meth c H locs 0 0 Q (F0 m 102 ls [])) (n : Nat) (x8_30 : Int32) (x9_30 : Int32) (H : Heap) (locs : List Loc) (ls : Array Slot), lp_X10_areTooMany_30 u p2 p3 p4 z0_10 z0_22 k n x8_30 x9_30 = some r → va_P D vwCl (wM cI cZ ad u) H → va_D A (wM cI cZ ad u) → va_S A s.heap H locs → lv_has ls 11 [(0, .ref (ad 0)), (3, .int p2), (4, .int p3), (5, .int p4), (6, .int z0_10), (7, .int z0_22), (8, .int x8_30), (9, .int x9_30)] → W p l e rX10_areTooMany s m ([.ref (ad 0), .int p0, .int p1, .int p2, .int p3, .int p4] : List Value).toArray below meth c H locs 0 0 Q (F0 m 30 ls []) := by
        intro k hk n
        induction n with
        | zero =>
          intro x8_30 x9_30 H locs ls h
          rw [lp_X10_areTooMany_30] at h
          cases h
        | succ n ih =>
          intro x8_30 x9_30 H locs ls h hP hD hS hl
          rw [lp_X10_areTooMany_30] at h
          refine lv_iload hx hb dX10_areTooMany_30 (lv_at hl 7 rfl) ?_
          refine lv_iload_n hx hb dX10_areTooMany_32 rfl (lv_at hl 1 rfl) ?_
          refine lv_icmp_gt (tgt := 102) hx hb dX10_areTooMany_33 (by decide) (fun c3 => ?_) (fun c3 => ?_)
          · replace h := gx_t c3 h
            exact hk x8_30 _ _ _ h hP hD hS (lv_sub hl [6] rfl)
          · replace h := gx_f c3 h
            refine lv_iload hx hb dX10_areTooMany_36 (lv_at hl 6 rfl) ?_
            refine lv_if_ne (tgt := 102) hx hb dX10_areTooMany_38 (by decide) (fun c4 => ?_) (fun c4 => ?_)
            · replace h := gx_f c4 h
              exact hk x8_30 _ _ _ h hP hD hS (lv_sub hl [6] rfl)
            · replace h := gx_t c4 h
              refine lv_iload hx hb dX10_areTooMany_41 (lv_at hl 2 rfl) ?_
              refine lv_istore (lv' := [(10, .int p3), (0, .ref (ad 0)), (3, .int p2), (4, .int p3), (5, .int p4), (6, .int z0_10), (7, .int z0_22), (8, .int x8_30), (9, .int x9_30)]) hx hb dX10_areTooMany_43 hl (by decide) rfl (fun ls hl => ?_)
              have hL45 : ∀ (k : Int32 → Option (Int32)) (hk : ∀ (x8_45 : Int32) (H : Heap) (locs : List Loc) (ls : Array Slot), k x8_45 = some r → va_P D vwCl (wM cI cZ ad u) H → va_D A (wM cI cZ ad u) → va_S A s.heap H locs → lv_has ls 11 [(0, .ref (ad 0)), (3, .int p2), (4, .int p3), (5, .int p4), (6, .int z0_10), (7, .int z0_22), (8, .int x8_45), (9, .int x9_30)] → W p l e rX10_areTooMany s m ([.ref (ad 0), .int p0, .int p1, .int p2, .int p3, .int p4] : List Value).toArray below meth c H locs 0 0 Q (F0 m 96 ls [])) (n : Nat) (x8_45 : Int32) (x10_45 : Int32) (H : Heap) (locs : List Loc) (ls : Array Slot), lp_X10_areTooMany_45 u p4 z0_10 z0_22 x9_30 k n x8_45 x10_45 = some r → va_P D vwCl (wM cI cZ ad u) H → va_D A (wM cI cZ ad u) → va_S A s.heap H locs → lv_has ls 11 [(0, .ref (ad 0)), (3, .int p2), (4, .int p3), (5, .int p4), (6, .int z0_10), (7, .int z0_22), (8, .int x8_45), (9, .int x9_30), (10, .int x10_45)] → W p l e rX10_areTooMany s m ([.ref (ad 0), .int p0, .int p1, .int p2, .int p3, .int p4] : List Value).toArray below meth c H locs 0 0 Q (F0 m 45 ls []) := by
                intro k hk n
                induction n with
                | zero =>
                  intro x8_45 x10_45 H locs ls h
                  rw [lp_X10_areTooMany_45] at h
                  cases h
                | succ n ih =>
                  intro x8_45 x10_45 H locs ls h hP hD hS hl
                  rw [lp_X10_areTooMany_45] at h
                  refine lv_iload hx hb dX10_areTooMany_45 (lv_at hl 8 rfl) ?_
                  refine lv_iload hx hb dX10_areTooMany_47 (lv_at hl 3 rfl) ?_
                  refine lv_icmp_ge (tgt := 96) hx hb dX10_areTooMany_49 (by decide) (fun c5 => ?_) (fun c5 => ?_)
                  · replace h := gx_t c5 h
                    exact hk x8_45 _ _ _ h hP hD hS (lv_sub hl [0, 1, 2, 3, 4, 5, 6, 7] rfl)
                  · replace h := gx_f c5 h
                    refine lv_iload hx hb dX10_areTooMany_52 (lv_at hl 6 rfl) ?_
                    refine lv_if_ne (tgt := 96) hx hb dX10_areTooMany_54 (by decide) (fun c6 => ?_) (fun c6 => ?_)
                    · replace h := gx_f c6 h
                      exact hk x8_45 _ _ _ h hP hD hS (lv_sub hl [0, 1, 2, 3, 4, 5, 6, 7] rfl)
                    · replace h := gx_t c6 h
                      refine lv_aload_n hx hb dX10_areTooMany_57 rfl (lv_at hl 0 rfl) ?_
                      refine lv_iload hx hb dX10_areTooMany_58 (lv_at hl 7 rfl) ?_
                      refine lv_iload hx hb dX10_areTooMany_60 (lv_at hl 4 rfl) ?_
                      refine lv_iload hx hb dX10_areTooMany_62 (lv_at hl 8 rfl) ?_
                      obtain ⟨y7, hc8, h⟩ := gx_bind h
                      refine cc_iV (As := [.int x9_30, .int z0_10, .int x10_45]) (rest := []) ⟨hx, hb, hml, hown, hts⟩ (k_X10_areBooked l D cI cZ ad u x9_30 z0_10 x10_45 hc8) (cwV 3 hts (gwV mw_1153 mw_1155 mw_44 mw_59 mw_1156) rfl rfl rfl (by decide +kernel) ⟨Nat.le_of_ble_eq_true rfl, Nat.le_of_ble_eq_true rfl⟩) hK hP hD hS hA hZ (ci := 10) (q0 := 0) rfl rfl rfl hl.1 rfl (Nat.le_of_ble_eq_true rfl) dX10_areTooMany_64 ⟨Nat.zero_le _, Nat.zero_le _⟩ (fun H locs hP hD hS => ?_)
                      obtain ⟨j88_9, ej88_9, h⟩ := gx_let h
                      have hj88_9 : ∀ (z0_88 : Int32) (H : Heap) (locs : List Loc) (ls : Array Slot), j88_9 z0_88 = some r → va_P D vwCl (wM cI cZ ad u) H → va_D A (wM cI cZ ad u) → va_S A s.heap H locs → lv_has ls 11 [(0, .ref (ad 0)), (3, .int p2), (4, .int p3), (5, .int p4), (6, .int z0_10), (7, .int z0_22), (9, .int x9_30), (10, .int x10_45)] → W p l e rX10_areTooMany s m ([.ref (ad 0), .int p0, .int p1, .int p2, .int p3, .int p4] : List Value).toArray below meth c H locs 0 0 Q (F0 m 88 ls [.int z0_88]) := by
                        intro z0_88 H locs ls h hP hD hS hl
                        subst ej88_9
                        refine lv_istore (lv' := [(8, .int z0_88), (0, .ref (ad 0)), (3, .int p2), (4, .int p3), (5, .int p4), (6, .int z0_10), (7, .int z0_22), (9, .int x9_30), (10, .int x10_45)]) hx hb dX10_areTooMany_88 hl (by decide) rfl (fun ls hl => ?_)
                        obtain ⟨v10, ev10, h⟩ := gx_let h
                        refine lv_iinc (v := v10) (lv' := [(10, .int v10), (8, .int z0_88), (0, .ref (ad 0)), (3, .int p2), (4, .int p3), (5, .int p4), (6, .int z0_10), (7, .int z0_22), (9, .int x9_30)]) hx hb dX10_areTooMany_90 hl (k := 8) rfl (by rw [← ev10]; rfl) (by decide) rfl (fun ls hl => ?_)
                        refine lv_goto (tgt := 45) hx hb dX10_areTooMany_93 (by decide) ?_
                        exact ih z0_88 v10 _ _ _ h hP hD hS (lv_sub hl [2, 3, 4, 5, 6, 7, 1, 8, 0] rfl)
                      obtain ⟨j87_11, ej87_11, h⟩ := gx_let h
                      have hj87_11 : ∀ (H : Heap) (locs : List Loc) (ls : Array Slot), j87_11 () = some r → va_P D vwCl (wM cI cZ ad u) H → va_D A (wM cI cZ ad u) → va_S A s.heap H locs → lv_has ls 11 [(0, .ref (ad 0)), (3, .int p2), (4, .int p3), (5, .int p4), (6, .int z0_10), (7, .int z0_22), (9, .int x9_30), (10, .int x10_45)] → W p l e rX10_areTooMany s m ([.ref (ad 0), .int p0, .int p1, .int p2, .int p3, .int p4] : List Value).toArray below meth c H locs 0 0 Q (F0 m 87 ls []) := by
                        intro  H locs ls h hP hD hS hl
                        subst ej87_11
                        refine lv_iconst (v := 0) hx hb dX10_areTooMany_87 (by decide) ?_
                        exact hj88_9 (0 : Int32) _ _ _ h hP hD hS (lv_sub hl [0, 1, 2, 3, 4, 5, 6, 7] rfl)
                      refine lv_if_eq (tgt := 87) hx hb dX10_areTooMany_67 (by decide) (fun c12 => ?_) (fun c12 => ?_)
                      · replace h := gx_t c12 h
                        exact hj87_11 _ _ _ h hP hD hS (lv_sub hl [0, 1, 2, 3, 4, 5, 7, 8] rfl)
                      · replace h := gx_f c12 h
                        refine lv_aload_n hx hb dX10_areTooMany_70 rfl (lv_at hl 0 rfl) ?_
                        refine lv_iload hx hb dX10_areTooMany_71 (lv_at hl 7 rfl) ?_
                        refine lv_iload hx hb dX10_areTooMany_73 (lv_at hl 5 rfl) ?_
                        refine lv_iload hx hb dX10_areTooMany_75 (lv_at hl 8 rfl) ?_
                        obtain ⟨y13, hc14, h⟩ := gx_bind h
                        refine cc_iV (As := [.int x9_30, .int z0_22, .int x10_45]) (rest := []) ⟨hx, hb, hml, hown, hts⟩ (k_X10_areBooked l D cI cZ ad u x9_30 z0_22 x10_45 hc14) (cwV 3 hts (gwV mw_1153 mw_1155 mw_44 mw_59 mw_1156) rfl rfl rfl (by decide +kernel) ⟨Nat.le_of_ble_eq_true rfl, Nat.le_of_ble_eq_true rfl⟩) hK hP hD hS hA hZ (ci := 10) (q0 := 0) rfl rfl rfl hl.1 rfl (Nat.le_of_ble_eq_true rfl) dX10_areTooMany_77 ⟨Nat.zero_le _, Nat.zero_le _⟩ (fun H locs hP hD hS => ?_)
                        refine lv_if_eq (tgt := 87) hx hb dX10_areTooMany_80 (by decide) (fun c15 => ?_) (fun c15 => ?_)
                        · replace h := gx_t c15 h
                          exact hj87_11 _ _ _ h hP hD hS (lv_sub hl [0, 1, 2, 3, 4, 5, 7, 8] rfl)
                        · replace h := gx_f c15 h
                          refine lv_iconst (v := 1) hx hb dX10_areTooMany_83 (by decide) ?_
                          refine lv_goto (tgt := 88) hx hb dX10_areTooMany_84 (by decide) ?_
                          exact hj88_9 (1 : Int32) _ _ _ h hP hD hS (lv_sub hl [0, 1, 2, 3, 4, 5, 7, 8] rfl)
              refine hL45 _ (fun x8_45 H locs ls h hP hD hS hl => ?_) FU x8_30 p3 _ _ _ h hP hD hS (lv_sub hl [1, 2, 3, 4, 5, 6, 7, 8, 0] rfl)
              obtain ⟨v16, ev16, h⟩ := gx_let h
              refine lv_iinc (v := v16) (lv' := [(9, .int v16), (0, .ref (ad 0)), (3, .int p2), (4, .int p3), (5, .int p4), (6, .int z0_10), (7, .int z0_22), (8, .int x8_45)]) hx hb dX10_areTooMany_96 hl (k := 7) rfl (by rw [← ev16]; rfl) (by decide) rfl (fun ls hl => ?_)
              refine lv_goto (tgt := 30) hx hb dX10_areTooMany_99 (by decide) ?_
              exact ih x8_45 v16 _ _ _ h hP hD hS (lv_sub hl [1, 2, 3, 4, 5, 6, 7, 0] rfl)
      refine hL30 _ (fun x8_30 H locs ls h hP hD hS hl => ?_) FU (0 : Int32) p1 _ _ _ h hP hD hS (lv_sub hl [3, 5, 6, 7, 8, 2, 1, 0] rfl)
      refine lv_iload hx hb dX10_areTooMany_102 (lv_at hl 0 rfl) ?_
      obtain ⟨bo, h⟩ := gx_bo h
      cases h
      exact cc_ret hx hb hr bo hQ hK hP hD hS rfl dX10_areTooMany_104 hlocks
    refine lv_icmp_ne (tgt := 21) hx hb dX10_areTooMany_14 (by decide) (fun c17 => ?_) (fun c17 => ?_)
    · replace h := gx_f c17 h
      refine lv_iconst (v := 3) hx hb dX10_areTooMany_21 (by decide) ?_
      exact hj22_2 (3 : Int32) _ _ _ h hP hD hS (lv_sub hl [1, 3, 4, 5, 6, 0] rfl)
    · replace h := gx_t c17 h
      refine lv_iconst (v := 2) hx hb dX10_areTooMany_17 (by decide) ?_
      refine lv_goto (tgt := 22) hx hb dX10_areTooMany_18 (by decide) ?_
      exact hj22_2 (2 : Int32) _ _ _ h hP hD hS (lv_sub hl [1, 3, 4, 5, 6, 0] rfl)
  refine lv_icmp_ne (tgt := 9) hx hb dX10_areTooMany_2 (by decide) (fun c18 => ?_) (fun c18 => ?_)
  · replace h := gx_f c18 h
    refine lv_iconst (v := 1) hx hb dX10_areTooMany_9 (by decide) ?_
    exact hj10_1 (1 : Int32) _ _ _ h hP hD hS (lv_sub hl [0, 1, 2, 3, 4, 5] rfl)
  · replace h := gx_t c18 h
    refine lv_iconst (v := 2) hx hb dX10_areTooMany_5 (by decide) ?_
    refine lv_goto (tgt := 10) hx hb dX10_areTooMany_6 (by decide) ?_
    exact hj10_1 (2 : Int32) _ _ _ h hP hD hS (lv_sub hl [0, 1, 2, 3, 4, 5] rfl)

def rX10_works : Room := { frames := 3, cells := 0, slots := 0, locals := 77 }
set_option maxHeartbeats 4000000 in
set_option maxRecDepth 100000 in
theorem k_X10_works (l : Launch) (D : va_G) (cI cZ : ClassId) (ad : Nat → Nat) (u : MS) (p0 : Int32) (p1 : Int32) (p2 : Int32) (p3 : Int32) (p4 : Int32) {r : Int32} {w' : MS} (h : g_X10_works u p0 p1 p2 p3 p4 = some (r, w')) : MI l yX10_works (wm yX10_works cX10_works 8 (some .int)) rX10_works D [(cI, .int), (cZ, .boolean)] (wM cI cZ ad u) (wM cI cZ ad w') [.ref (ad 0), .int p0, .int p1, .int p2, .int p3, .int p4] r := by
  intro sz
  refine Met.ofW (cc := cX10_works) (maxL := 8) (ret := (some .int)) (by decide) rfl ?_
  intro p e s m args below meth c s₁ B hml hv
  obtain ⟨rfl, hsz, hP, hK, hD0, hZ⟩ := hv
  have hx := B.exec
  have hb := B.bytes
  have hr := B.returns
  have hts : ∀ w ∈ Wall, w.before _ s = true := fun w hw => atoms_spec (ws := wm yX10_works cX10_works 8 (some .int)) B.pre w (List.mem_cons_of_mem _ hw)
  have hown : s.vm.findClass RX10 = some m.cls := findClass_of_methodNamed B.named
  have hlocks := B.notSynchronized
  subst hsz
  have hD := hD0.self (sz := s.heap.size)
  generalize hAe : va_A (wM cI cZ ad u) s.heap.size = A at hD hZ ⊢
  have hA : ∀ q : Nat, s.heap.size ≤ q → A q := fun q h => by rw [← hAe]; exact Or.inr h
  have hS : va_S A s.heap s.heap [] := va_S.rf
  have hf62 := hts _ mw_897
  have hf98 := hts _ mw_896
  have hf65 := hts _ mw_898
  have hf68 := hts _ mw_899
  have hf71 := hts _ mw_900
  have hf74 := hts _ mw_901
  have hf95 := hts _ mw_872
  have hl := lv_entry ([.ref (ad 0), .int p0, .int p1, .int p2, .int p3, .int p4]) (n := 8) (Nat.le_of_ble_eq_true rfl)
  rw [lg_entry_eq]
  generalize (lg_sl ([.ref (ad 0), .int p0, .int p1, .int p2, .int p3, .int p4]) ++ List.replicate (8 - (lg_sl ([.ref (ad 0), .int p0, .int p1, .int p2, .int p3, .int p4])).length) Slot.unset).toArray = ls at hl ⊢
  replace hl : lv_has ls 8 [(0, .ref (ad 0)), (1, .int p0), (2, .int p1), (3, .int p2), (4, .int p3), (5, .int p4)] := hl
  refine w_gen (fun Q hQ => ?_)
  refine lv_iload_n hx hb dX10_works_0 rfl (lv_at hl 1 rfl) ?_
  refine lv_iconst (v := 1) hx hb dX10_works_1 (by decide) ?_
  refine lv_iconst (v := 3) hx hb dX10_works_2 (by decide) ?_
  obtain ⟨y1, hc2, h⟩ := gx_bind h
  refine cc_iS (As := [.int p0, .int (1 : Int32), .int (3 : Int32)]) (rest := []) ⟨hx, hb, hml, hown, hts⟩ (k_X10_isIn l D cI cZ ad u p0 (1 : Int32) (3 : Int32) hc2) (va_cwS 3 hts (gwS mw_860 mw_861 mw_59 mw_862) rfl rfl rfl (by decide +kernel) ⟨Nat.le_of_ble_eq_true rfl, Nat.le_of_ble_eq_true rfl⟩) hK hP hD hS hA hZ rfl hl.1 rfl (Nat.le_of_ble_eq_true rfl) dX10_works_3 ⟨Nat.zero_le _, Nat.zero_le _⟩ (fun H locs hP hD hS => ?_)
  obtain ⟨j34_3, ej34_3, h⟩ := gx_let h
  have hj34_3 : ∀ (z0_34 : Int32) (H : Heap) (locs : List Loc) (ls : Array Slot), j34_3 z0_34 = some (r, w') → va_P D vwCl (wM cI cZ ad u) H → va_D A (wM cI cZ ad u) → va_S A s.heap H locs → lv_has ls 8 [(0, .ref (ad 0)), (1, .int p0), (2, .int p1), (3, .int p2), (4, .int p3), (5, .int p4)] → W p l e rX10_works s m ([.ref (ad 0), .int p0, .int p1, .int p2, .int p3, .int p4] : List Value).toArray below meth c H locs 0 0 Q (F0 m 34 ls [.int z0_34]) := by
    intro z0_34 H locs ls h hP hD hS hl
    subst ej34_3
    refine lv_istore (lv' := [(6, .int z0_34), (0, .ref (ad 0)), (1, .int p0), (2, .int p1), (3, .int p2), (4, .int p3), (5, .int p4)]) hx hb dX10_works_34 hl (by decide) rfl (fun ls hl => ?_)
    refine lv_iload_n hx hb dX10_works_36 rfl (lv_at hl 3 rfl) ?_
    refine lv_iload_n hx hb dX10_works_37 rfl (lv_at hl 4 rfl) ?_
    obtain ⟨j76_4, ej76_4, h⟩ := gx_let h
    have hj76_4 : ∀ (z0_76 : Int32) (H : Heap) (locs : List Loc) (ls : Array Slot), j76_4 z0_76 = some (r, w') → va_P D vwCl (wM cI cZ ad u) H → va_D A (wM cI cZ ad u) → va_S A s.heap H locs → lv_has ls 8 [(0, .ref (ad 0)), (1, .int p0), (2, .int p1), (3, .int p2), (4, .int p3), (5, .int p4), (6, .int z0_34)] → W p l e rX10_works s m ([.ref (ad 0), .int p0, .int p1, .int p2, .int p3, .int p4] : List Value).toArray below meth c H locs 0 0 Q (F0 m 76 ls [.int z0_76]) := by
      intro z0_76 H locs ls h hP hD hS hl
      subst ej76_4
      refine lv_istore (lv' := [(7, .int z0_76), (0, .ref (ad 0)), (1, .int p0), (2, .int p1), (3, .int p2), (4, .int p3), (5, .int p4), (6, .int z0_34)]) hx hb dX10_works_76 hl (by decide) rfl (fun ls hl => ?_)
      refine lv_aload_n hx hb dX10_works_78 rfl (lv_at hl 1 rfl) ?_
      refine lv_iload hx hb dX10_works_79 (lv_at hl 7 rfl) ?_
      obtain ⟨j125_5, ej125_5, h⟩ := gx_let h
      have hj125_5 : ∀ (z0_125 : Int32) (H : Heap) (locs : List Loc) (ls : Array Slot), j125_5 z0_125 = some (r, w') → va_P D vwCl (wM cI cZ ad u) H → va_D A (wM cI cZ ad u) → va_S A s.heap H locs → lv_has ls 8 [(0, .ref (ad 0)), (1, .int p0), (2, .int p1), (3, .int p2), (4, .int p3), (5, .int p4)] → W p l e rX10_works s m ([.ref (ad 0), .int p0, .int p1, .int p2, .int p3, .int p4] : List Value).toArray below meth c H locs 0 0 Q (F0 m 125 ls [.int z0_125, .ref (ad 0)]) := by
        intro z0_125 H locs ls h hP hD hS hl
        subst ej125_5
        obtain ⟨y6, hc7, h⟩ := gx_bind h
        refine cc_iV (As := [.int z0_125]) (rest := []) ⟨hx, hb, hml, hown, hts⟩ (k_X10_holds l D cI cZ ad u z0_125 hc7) (cwV 1 hts (gwV mw_976 mw_978 mw_24 mw_59 mw_979) rfl rfl rfl (by decide +kernel) ⟨Nat.le_of_ble_eq_true rfl, Nat.le_of_ble_eq_true rfl⟩) hK hP hD hS hA hZ (ci := 10) (q0 := 0) rfl rfl rfl hl.1 rfl (Nat.le_of_ble_eq_true rfl) dX10_works_125 ⟨Nat.zero_le _, Nat.zero_le _⟩ (fun H locs hP hD hS => ?_)
        refine lv_if_ne (tgt := 133) hx hb dX10_works_128 (by decide) (fun c8 => ?_) (fun c8 => ?_)
        · replace h := gx_f c8 h
          refine lv_aload_n hx hb dX10_works_133 rfl (lv_at hl 0 rfl) ?_
          refine va_get (D := D) (ci := 10) (v := .ref (ad 18)) (C := RX10) (T := TX10) (N := 32) hx hb hts iX10 hown hK hP 0 rfl rfl 26 (by decide) hf62 (fun _ h9 => h9) rfl dX10_works_134 ?_
          refine lv_aload_n hx hb dX10_works_137 rfl (lv_at hl 0 rfl) ?_
          refine va_get (D := D) (ci := 10) (v := .int (mB_works y6.2)) (C := RX10) (T := TX10) (N := 32) hx hb hts iX10 hown hK hP 0 rfl rfl 25 (by decide) hf98 (fun _ h9 => h9) rfl dX10_works_138 ?_
          refine lv_iload_n hx hb dX10_works_141 rfl (lv_at hl 1 rfl) ?_
          obtain ⟨b9, h⟩ := gx_in h
          refine va_iast (D := D) hx hb hK hP hD hS 18 0 rfl rfl b9 dX10_works_142 (fun H locs hP hD hS => ?_)
          obtain ⟨u10, eu10, h⟩ := gx_let h
          replace hP : va_P D vwCl (wM cI cZ ad u10) H := by rw [← eu10]; exact hP
          replace hD : va_D A (wM cI cZ ad u10) := by rw [← eu10]; exact hD
          refine lv_aload_n hx hb dX10_works_143 rfl (lv_at hl 0 rfl) ?_
          refine va_get (D := D) (ci := 10) (v := .ref (ad 19)) (C := RX10) (T := TX10) (N := 32) hx hb hts iX10 hown hK hP 0 rfl rfl 27 (by decide) hf65 (fun _ h9 => h9) rfl dX10_works_144 ?_
          refine lv_aload_n hx hb dX10_works_147 rfl (lv_at hl 0 rfl) ?_
          refine va_get (D := D) (ci := 10) (v := .int (mB_works u10)) (C := RX10) (T := TX10) (N := 32) hx hb hts iX10 hown hK hP 0 rfl rfl 25 (by decide) hf98 (fun _ h9 => h9) rfl dX10_works_148 ?_
          refine lv_iload_n hx hb dX10_works_151 rfl (lv_at hl 2 rfl) ?_
          obtain ⟨b11, h⟩ := gx_in h
          refine va_iast (D := D) hx hb hK hP hD hS 19 0 rfl rfl b11 dX10_works_152 (fun H locs hP hD hS => ?_)
          obtain ⟨u12, eu12, h⟩ := gx_let h
          replace hP : va_P D vwCl (wM cI cZ ad u12) H := by rw [← eu12]; exact hP
          replace hD : va_D A (wM cI cZ ad u12) := by rw [← eu12]; exact hD
          refine lv_aload_n hx hb dX10_works_153 rfl (lv_at hl 0 rfl) ?_
          refine va_get (D := D) (ci := 10) (v := .ref (ad 20)) (C := RX10) (T := TX10) (N := 32) hx hb hts iX10 hown hK hP 0 rfl rfl 28 (by decide) hf68 (fun _ h9 => h9) rfl dX10_works_154 ?_
          refine lv_aload_n hx hb dX10_works_157 rfl (lv_at hl 0 rfl) ?_
          refine va_get (D := D) (ci := 10) (v := .int (mB_works u12)) (C := RX10) (T := TX10) (N := 32) hx hb hts iX10 hown hK hP 0 rfl rfl 25 (by decide) hf98 (fun _ h9 => h9) rfl dX10_works_158 ?_
          refine lv_iload_n hx hb dX10_works_161 rfl (lv_at hl 3 rfl) ?_
          obtain ⟨b13, h⟩ := gx_in h
          refine va_iast (D := D) hx hb hK hP hD hS 20 0 rfl rfl b13 dX10_works_162 (fun H locs hP hD hS => ?_)
          obtain ⟨u14, eu14, h⟩ := gx_let h
          replace hP : va_P D vwCl (wM cI cZ ad u14) H := by rw [← eu14]; exact hP
          replace hD : va_D A (wM cI cZ ad u14) := by rw [← eu14]; exact hD
          refine lv_aload_n hx hb dX10_works_163 rfl (lv_at hl 0 rfl) ?_
          refine va_get (D := D) (ci := 10) (v := .ref (ad 21)) (C := RX10) (T := TX10) (N := 32) hx hb hts iX10 hown hK hP 0 rfl rfl 29 (by decide) hf71 (fun _ h9 => h9) rfl dX10_works_164 ?_
          refine lv_aload_n hx hb dX10_works_167 rfl (lv_at hl 0 rfl) ?_
          refine va_get (D := D) (ci := 10) (v := .int (mB_works u14)) (C := RX10) (T := TX10) (N := 32) hx hb hts iX10 hown hK hP 0 rfl rfl 25 (by decide) hf98 (fun _ h9 => h9) rfl dX10_works_168 ?_
          refine lv_iload hx hb dX10_works_171 (lv_at hl 4 rfl) ?_
          obtain ⟨b15, h⟩ := gx_in h
          refine va_iast (D := D) hx hb hK hP hD hS 21 0 rfl rfl b15 dX10_works_173 (fun H locs hP hD hS => ?_)
          obtain ⟨u16, eu16, h⟩ := gx_let h
          replace hP : va_P D vwCl (wM cI cZ ad u16) H := by rw [← eu16]; exact hP
          replace hD : va_D A (wM cI cZ ad u16) := by rw [← eu16]; exact hD
          refine lv_aload_n hx hb dX10_works_174 rfl (lv_at hl 0 rfl) ?_
          refine va_get (D := D) (ci := 10) (v := .ref (ad 22)) (C := RX10) (T := TX10) (N := 32) hx hb hts iX10 hown hK hP 0 rfl rfl 30 (by decide) hf74 (fun _ h9 => h9) rfl dX10_works_175 ?_
          refine lv_aload_n hx hb dX10_works_178 rfl (lv_at hl 0 rfl) ?_
          refine va_get (D := D) (ci := 10) (v := .int (mB_works u16)) (C := RX10) (T := TX10) (N := 32) hx hb hts iX10 hown hK hP 0 rfl rfl 25 (by decide) hf98 (fun _ h9 => h9) rfl dX10_works_179 ?_
          refine lv_iload hx hb dX10_works_182 (lv_at hl 5 rfl) ?_
          obtain ⟨b17, h⟩ := gx_in h
          refine va_iast (D := D) hx hb hK hP hD hS 22 0 rfl rfl b17 dX10_works_184 (fun H locs hP hD hS => ?_)
          obtain ⟨u18, eu18, h⟩ := gx_let h
          replace hP : va_P D vwCl (wM cI cZ ad u18) H := by rw [← eu18]; exact hP
          replace hD : va_D A (wM cI cZ ad u18) := by rw [← eu18]; exact hD
          refine lv_aload_n hx hb dX10_works_185 rfl (lv_at hl 0 rfl) ?_
          refine lv_dup hx hb dX10_works_186 rfl ?_
          refine va_get (D := D) (ci := 10) (v := .int (mB_works u18)) (C := RX10) (T := TX10) (N := 32) hx hb hts iX10 hown hK hP 0 rfl rfl 25 (by decide) hf98 (fun _ h9 => h9) rfl dX10_works_187 ?_
          refine lv_iconst (v := 1) hx hb dX10_works_190 (by decide) ?_
          refine lv_iadd hx hb dX10_works_191 ?_
          refine va_put (D := D) (ci := 10) (v := .int ((mB_works u18) + (1 : Int32))) (ty := .int) (C := RX10) (T := TX10) (N := 32) hx hb hts iX10 tyX10 tyX10_ok nmX10 hown hK hP hD hS 0 rfl rfl 25 (by decide) hf98 (fun _ h9 => h9) rfl (by decide +kernel) rfl rfl (Nat.le_of_ble_eq_true rfl) dX10_works_192 (fun H locs hP hD hS => ?_)
          obtain ⟨u19, eu19, h⟩ := gx_let h
          replace hP : va_P D vwCl (wM cI cZ ad u19) H := by rw [← eu19]; exact hP
          replace hD : va_D A (wM cI cZ ad u19) := by rw [← eu19]; exact hD
          refine lv_aload_n hx hb dX10_works_195 rfl (lv_at hl 0 rfl) ?_
          refine va_get (D := D) (ci := 10) (v := .int (mB_works u19)) (C := RX10) (T := TX10) (N := 32) hx hb hts iX10 hown hK hP 0 rfl rfl 25 (by decide) hf98 (fun _ h9 => h9) rfl dX10_works_196 ?_
          refine lv_iconst (v := 1) hx hb dX10_works_199 (by decide) ?_
          refine lv_isub hx hb dX10_works_200 ?_
          cases h
          exact cc_ret hx hb hr rfl hQ hK hP hD hS rfl dX10_works_201 hlocks
        · replace h := gx_t c8 h
          refine lv_iconst (v := 0) hx hb dX10_works_131 (by decide) ?_
          cases h
          exact cc_ret hx hb hr rfl hQ hK hP hD hS rfl dX10_works_132 hlocks
      refine lv_if_ne (tgt := 88) hx hb dX10_works_81 (by decide) (fun c20 => ?_) (fun c20 => ?_)
      · replace h := gx_f c20 h
        refine lv_iload hx hb dX10_works_88 (lv_at hl 0 rfl) ?_
        refine lv_if_ne (tgt := 97) hx hb dX10_works_90 (by decide) (fun c21 => ?_) (fun c21 => ?_)
        · replace h := gx_f c21 h
          refine lv_aload_n hx hb dX10_works_97 rfl (lv_at hl 1 rfl) ?_
          refine va_get (D := D) (ci := 10) (v := .int (mB_works u)) (C := RX10) (T := TX10) (N := 32) hx hb hts iX10 hown hK hP 0 rfl rfl 25 (by decide) hf98 (fun _ h9 => h9) rfl dX10_works_98 ?_
          refine lv_bipush (v := 8) hx hb dX10_works_101 (by decide) ?_
          obtain ⟨j120_22, ej120_22, h⟩ := gx_let h
          have hj120_22 : ∀ (H : Heap) (locs : List Loc) (ls : Array Slot), j120_22 () = some (r, w') → va_P D vwCl (wM cI cZ ad u) H → va_D A (wM cI cZ ad u) → va_S A s.heap H locs → lv_has ls 8 [(0, .ref (ad 0)), (1, .int p0), (2, .int p1), (3, .int p2), (4, .int p3), (5, .int p4)] → W p l e rX10_works s m ([.ref (ad 0), .int p0, .int p1, .int p2, .int p3, .int p4] : List Value).toArray below meth c H locs 0 0 Q (F0 m 120 ls [.ref (ad 0)]) := by
            intro  H locs ls h hP hD hS hl
            subst ej120_22
            refine lv_iconst (v := 3) hx hb dX10_works_120 (by decide) ?_
            refine lv_goto (tgt := 125) hx hb dX10_works_121 (by decide) ?_
            exact hj125_5 (3 : Int32) _ _ _ h hP hD hS (lv_sub hl [0, 1, 2, 3, 4, 5] rfl)
          refine lv_icmp_eq (tgt := 120) hx hb dX10_works_103 (by decide) (fun c23 => ?_) (fun c23 => ?_)
          · replace h := gx_t c23 h
            exact hj120_22 _ _ _ h hP hD hS (lv_sub hl [1, 2, 3, 4, 5, 6] rfl)
          · replace h := gx_f c23 h
            refine lv_aload_n hx hb dX10_works_106 rfl (lv_at hl 1 rfl) ?_
            refine lv_iload_n hx hb dX10_works_107 rfl (lv_at hl 2 rfl) ?_
            refine lv_iload_n hx hb dX10_works_108 rfl (lv_at hl 3 rfl) ?_
            refine lv_iload_n hx hb dX10_works_109 rfl (lv_at hl 4 rfl) ?_
            refine lv_iload hx hb dX10_works_110 (lv_at hl 5 rfl) ?_
            refine lv_iload hx hb dX10_works_112 (lv_at hl 6 rfl) ?_
            obtain ⟨y24, hc25, h⟩ := gx_bind h
            refine cc_iV (As := [.int p0, .int p1, .int p2, .int p3, .int p4]) (rest := [.ref (ad 0)]) ⟨hx, hb, hml, hown, hts⟩ (k_X10_areTooMany l D cI cZ ad u p0 p1 p2 p3 p4 hc25) (cwV 5 hts (gwV mw_1149 mw_1151 mw_43 mw_59 mw_1152) rfl rfl rfl (by decide +kernel) ⟨Nat.le_of_ble_eq_true rfl, Nat.le_of_ble_eq_true rfl⟩) hK hP hD hS hA hZ (ci := 10) (q0 := 0) rfl rfl rfl hl.1 rfl (Nat.le_of_ble_eq_true rfl) dX10_works_114 ⟨Nat.zero_le _, Nat.zero_le _⟩ (fun H locs hP hD hS => ?_)
            refine lv_if_eq (tgt := 124) hx hb dX10_works_117 (by decide) (fun c26 => ?_) (fun c26 => ?_)
            · replace h := gx_t c26 h
              refine lv_iconst (v := 0) hx hb dX10_works_124 (by decide) ?_
              exact hj125_5 (0 : Int32) _ _ _ h hP hD hS (lv_sub hl [1, 2, 3, 4, 5, 6] rfl)
            · replace h := gx_f c26 h
              exact hj120_22 _ _ _ h hP hD hS (lv_sub hl [1, 2, 3, 4, 5, 6] rfl)
        · replace h := gx_t c21 h
          refine lv_iconst (v := 2) hx hb dX10_works_93 (by decide) ?_
          refine lv_goto (tgt := 125) hx hb dX10_works_94 (by decide) ?_
          exact hj125_5 (2 : Int32) _ _ _ h hP hD hS (lv_sub hl [1, 2, 3, 4, 5, 6] rfl)
      · replace h := gx_t c20 h
        refine lv_iconst (v := 1) hx hb dX10_works_84 (by decide) ?_
        refine lv_goto (tgt := 125) hx hb dX10_works_85 (by decide) ?_
        exact hj125_5 (1 : Int32) _ _ _ h hP hD hS (lv_sub hl [1, 2, 3, 4, 5, 6] rfl)
    obtain ⟨j75_27, ej75_27, h⟩ := gx_let h
    have hj75_27 : ∀ (H : Heap) (locs : List Loc) (ls : Array Slot), j75_27 () = some (r, w') → va_P D vwCl (wM cI cZ ad u) H → va_D A (wM cI cZ ad u) → va_S A s.heap H locs → lv_has ls 8 [(0, .ref (ad 0)), (1, .int p0), (2, .int p1), (3, .int p2), (4, .int p3), (5, .int p4), (6, .int z0_34)] → W p l e rX10_works s m ([.ref (ad 0), .int p0, .int p1, .int p2, .int p3, .int p4] : List Value).toArray below meth c H locs 0 0 Q (F0 m 75 ls []) := by
      intro  H locs ls h hP hD hS hl
      subst ej75_27
      refine lv_iconst (v := 0) hx hb dX10_works_75 (by decide) ?_
      exact hj76_4 (0 : Int32) _ _ _ h hP hD hS (lv_sub hl [0, 1, 2, 3, 4, 5, 6] rfl)
    refine lv_icmp_gt (tgt := 75) hx hb dX10_works_38 (by decide) (fun c28 => ?_) (fun c28 => ?_)
    · replace h := gx_t c28 h
      exact hj75_27 _ _ _ h hP hD hS (lv_sub hl [1, 2, 3, 4, 5, 6, 0] rfl)
    · replace h := gx_f c28 h
      refine lv_iload hx hb dX10_works_41 (lv_at hl 5 rfl) ?_
      refine lv_aload_n hx hb dX10_works_43 rfl (lv_at hl 1 rfl) ?_
      refine va_get (D := D) (ci := 10) (v := .int (m_now u)) (C := RX10) (T := TX10) (N := 32) hx hb hts iX10 hown hK hP 0 rfl rfl 1 (by decide) hf95 (fun _ h9 => h9) rfl dX10_works_44 ?_
      refine lv_sipush (v := 599) hx hb dX10_works_47 (by decide) ?_
      obtain ⟨y29, hc30, h⟩ := gx_bind h
      refine cc_iS (As := [.int p3, .int (m_now u), .int (599 : Int32)]) (rest := []) ⟨hx, hb, hml, hown, hts⟩ (k_X10_isIn l D cI cZ ad u p3 (m_now u) (599 : Int32) hc30) (va_cwS 3 hts (gwS mw_860 mw_861 mw_59 mw_862) rfl rfl rfl (by decide +kernel) ⟨Nat.le_of_ble_eq_true rfl, Nat.le_of_ble_eq_true rfl⟩) hK hP hD hS hA hZ rfl hl.1 rfl (Nat.le_of_ble_eq_true rfl) dX10_works_50 ⟨Nat.zero_le _, Nat.zero_le _⟩ (fun H locs hP hD hS => ?_)
      refine lv_if_eq (tgt := 75) hx hb dX10_works_53 (by decide) (fun c31 => ?_) (fun c31 => ?_)
      · replace h := gx_t c31 h
        exact hj75_27 _ _ _ h hP hD hS (lv_sub hl [1, 2, 3, 4, 5, 6, 0] rfl)
      · replace h := gx_f c31 h
        refine lv_iload hx hb dX10_works_56 (lv_at hl 6 rfl) ?_
        refine lv_iload hx hb dX10_works_58 (lv_at hl 5 rfl) ?_
        refine lv_icmp_le (tgt := 75) hx hb dX10_works_60 (by decide) (fun c32 => ?_) (fun c32 => ?_)
        · replace h := gx_t c32 h
          exact hj75_27 _ _ _ h hP hD hS (lv_sub hl [1, 2, 3, 4, 5, 6, 0] rfl)
        · replace h := gx_f c32 h
          refine lv_iload hx hb dX10_works_63 (lv_at hl 6 rfl) ?_
          refine lv_sipush (v := 600) hx hb dX10_works_65 (by decide) ?_
          refine lv_icmp_gt (tgt := 75) hx hb dX10_works_68 (by decide) (fun c33 => ?_) (fun c33 => ?_)
          · replace h := gx_t c33 h
            exact hj75_27 _ _ _ h hP hD hS (lv_sub hl [1, 2, 3, 4, 5, 6, 0] rfl)
          · replace h := gx_f c33 h
            refine lv_iconst (v := 1) hx hb dX10_works_71 (by decide) ?_
            refine lv_goto (tgt := 76) hx hb dX10_works_72 (by decide) ?_
            exact hj76_4 (1 : Int32) _ _ _ h hP hD hS (lv_sub hl [1, 2, 3, 4, 5, 6, 0] rfl)
  obtain ⟨j33_34, ej33_34, h⟩ := gx_let h
  have hj33_34 : ∀ (H : Heap) (locs : List Loc) (ls : Array Slot), j33_34 () = some (r, w') → va_P D vwCl (wM cI cZ ad u) H → va_D A (wM cI cZ ad u) → va_S A s.heap H locs → lv_has ls 8 [(0, .ref (ad 0)), (1, .int p0), (2, .int p1), (3, .int p2), (4, .int p3), (5, .int p4)] → W p l e rX10_works s m ([.ref (ad 0), .int p0, .int p1, .int p2, .int p3, .int p4] : List Value).toArray below meth c H locs 0 0 Q (F0 m 33 ls []) := by
    intro  H locs ls h hP hD hS hl
    subst ej33_34
    refine lv_iconst (v := 0) hx hb dX10_works_33 (by decide) ?_
    exact hj34_3 (0 : Int32) _ _ _ h hP hD hS (lv_sub hl [0, 1, 2, 3, 4, 5] rfl)
  refine lv_if_eq (tgt := 33) hx hb dX10_works_6 (by decide) (fun c35 => ?_) (fun c35 => ?_)
  · replace h := gx_t c35 h
    exact hj33_34 _ _ _ h hP hD hS (lv_sub hl [0, 1, 2, 3, 4, 5] rfl)
  · replace h := gx_f c35 h
    refine lv_iload_n hx hb dX10_works_9 rfl (lv_at hl 2 rfl) ?_
    refine lv_iconst (v := 1) hx hb dX10_works_10 (by decide) ?_
    refine lv_bipush (v := 11) hx hb dX10_works_11 (by decide) ?_
    obtain ⟨y36, hc37, h⟩ := gx_bind h
    refine cc_iS (As := [.int p1, .int (1 : Int32), .int (11 : Int32)]) (rest := []) ⟨hx, hb, hml, hown, hts⟩ (k_X10_isIn l D cI cZ ad u p1 (1 : Int32) (11 : Int32) hc37) (va_cwS 3 hts (gwS mw_860 mw_861 mw_59 mw_862) rfl rfl rfl (by decide +kernel) ⟨Nat.le_of_ble_eq_true rfl, Nat.le_of_ble_eq_true rfl⟩) hK hP hD hS hA hZ rfl hl.1 rfl (Nat.le_of_ble_eq_true rfl) dX10_works_13 ⟨Nat.zero_le _, Nat.zero_le _⟩ (fun H locs hP hD hS => ?_)
    refine lv_if_eq (tgt := 33) hx hb dX10_works_16 (by decide) (fun c38 => ?_) (fun c38 => ?_)
    · replace h := gx_t c38 h
      exact hj33_34 _ _ _ h hP hD hS (lv_sub hl [0, 1, 2, 3, 4, 5] rfl)
    · replace h := gx_f c38 h
      refine lv_iload_n hx hb dX10_works_19 rfl (lv_at hl 3 rfl) ?_
      refine lv_iconst (v := 1) hx hb dX10_works_20 (by decide) ?_
      refine lv_bipush (v := 11) hx hb dX10_works_21 (by decide) ?_
      obtain ⟨y39, hc40, h⟩ := gx_bind h
      refine cc_iS (As := [.int p2, .int (1 : Int32), .int (11 : Int32)]) (rest := []) ⟨hx, hb, hml, hown, hts⟩ (k_X10_isIn l D cI cZ ad u p2 (1 : Int32) (11 : Int32) hc40) (va_cwS 3 hts (gwS mw_860 mw_861 mw_59 mw_862) rfl rfl rfl (by decide +kernel) ⟨Nat.le_of_ble_eq_true rfl, Nat.le_of_ble_eq_true rfl⟩) hK hP hD hS hA hZ rfl hl.1 rfl (Nat.le_of_ble_eq_true rfl) dX10_works_23 ⟨Nat.zero_le _, Nat.zero_le _⟩ (fun H locs hP hD hS => ?_)
      refine lv_if_eq (tgt := 33) hx hb dX10_works_26 (by decide) (fun c41 => ?_) (fun c41 => ?_)
      · replace h := gx_t c41 h
        exact hj33_34 _ _ _ h hP hD hS (lv_sub hl [0, 1, 2, 3, 4, 5] rfl)
      · replace h := gx_f c41 h
        refine lv_iconst (v := 1) hx hb dX10_works_29 (by decide) ?_
        refine lv_goto (tgt := 34) hx hb dX10_works_30 (by decide) ?_
        exact hj34_3 (1 : Int32) _ _ _ h hP hD hS (lv_sub hl [0, 1, 2, 3, 4, 5] rfl)

def rX10_isOn : Room := { frames := 1, cells := 0, slots := 0, locals := 22 }
set_option maxHeartbeats 4000000 in
set_option maxRecDepth 100000 in
theorem k_X10_isOn (l : Launch) (D : va_G) (cI cZ : ClassId) (ad : Nat → Nat) (u : MS) (p0 : Int32) {r : Int32} {w' : MS} (h : g_X10_isOn u p0 = some (r, w')) : MI l yX10_isOn (wm yX10_isOn cX10_isOn 2 (some .boolean)) rX10_isOn D [(cI, .int), (cZ, .boolean)] (wM cI cZ ad u) (wM cI cZ ad w') [.ref (ad 0), .int p0] r := by
  intro sz
  refine Met.ofW (cc := cX10_isOn) (maxL := 2) (ret := (some .boolean)) (by decide) rfl ?_
  intro p e s m args below meth c s₁ B hml hv
  obtain ⟨rfl, hsz, hP, hK, hD0, hZ⟩ := hv
  have hx := B.exec
  have hb := B.bytes
  have hr := B.returns
  have hts : ∀ w ∈ Wall, w.before _ s = true := fun w hw => atoms_spec (ws := wm yX10_isOn cX10_isOn 2 (some .boolean)) B.pre w (List.mem_cons_of_mem _ hw)
  have hown : s.vm.findClass RX10 = some m.cls := findClass_of_methodNamed B.named
  have hlocks := B.notSynchronized
  subst hsz
  have hD := hD0.self (sz := s.heap.size)
  generalize hAe : va_A (wM cI cZ ad u) s.heap.size = A at hD hZ ⊢
  have hA : ∀ q : Nat, s.heap.size ≤ q → A q := fun q h => by rw [← hAe]; exact Or.inr h
  have hS : va_S A s.heap s.heap [] := va_S.rf
  have hf98 := hts _ mw_896
  have hl := lv_entry ([.ref (ad 0), .int p0]) (n := 2) (Nat.le_of_ble_eq_true rfl)
  rw [lg_entry_eq]
  generalize (lg_sl ([.ref (ad 0), .int p0]) ++ List.replicate (2 - (lg_sl ([.ref (ad 0), .int p0])).length) Slot.unset).toArray = ls at hl ⊢
  replace hl : lv_has ls 2 [(0, .ref (ad 0)), (1, .int p0)] := hl
  refine w_gen (fun Q hQ => ?_)
  refine lv_aload_n hx hb dX10_isOn_0 rfl (lv_at hl 0 rfl) ?_
  refine lv_iload_n hx hb dX10_isOn_1 rfl (lv_at hl 1 rfl) ?_
  refine lv_iconst (v := 0) hx hb dX10_isOn_2 (by decide) ?_
  refine lv_aload_n hx hb dX10_isOn_3 rfl (lv_at hl 0 rfl) ?_
  refine va_get (D := D) (ci := 10) (v := .int (mB_works u)) (C := RX10) (T := TX10) (N := 32) hx hb hts iX10 hown hK hP 0 rfl rfl 25 (by decide) hf98 (fun _ h9 => h9) rfl dX10_isOn_4 ?_
  refine lv_iconst (v := 1) hx hb dX10_isOn_7 (by decide) ?_
  refine lv_isub hx hb dX10_isOn_8 ?_
  obtain ⟨y1, hc2, h⟩ := gx_bind h
  refine cc_iS (As := [.int p0, .int (0 : Int32), .int ((mB_works u) - (1 : Int32))]) (rest := [.ref (ad 0)]) ⟨hx, hb, hml, hown, hts⟩ (k_X10_isIn l D cI cZ ad u p0 (0 : Int32) ((mB_works u) - (1 : Int32)) hc2) (va_cwS 3 hts (gwS mw_860 mw_861 mw_59 mw_862) rfl rfl rfl (by decide +kernel) ⟨Nat.le_of_ble_eq_true rfl, Nat.le_of_ble_eq_true rfl⟩) hK hP hD hS hA hZ rfl hl.1 rfl (Nat.le_of_ble_eq_true rfl) dX10_isOn_9 ⟨Nat.zero_le _, Nat.zero_le _⟩ (fun H locs hP hD hS => ?_)
  obtain ⟨j20_3, ej20_3, h⟩ := gx_let h
  have hj20_3 : ∀ (z0_20 : Int32) (H : Heap) (locs : List Loc) (ls : Array Slot), j20_3 z0_20 = some (r, w') → va_P D vwCl (wM cI cZ ad u) H → va_D A (wM cI cZ ad u) → va_S A s.heap H locs → lv_has ls 2 [(0, .ref (ad 0)), (1, .int p0)] → W p l e rX10_isOn s m ([.ref (ad 0), .int p0] : List Value).toArray below meth c H locs 0 0 Q (F0 m 20 ls [.int z0_20, .ref (ad 0)]) := by
    intro z0_20 H locs ls h hP hD hS hl
    subst ej20_3
    obtain ⟨y4, hc5, h⟩ := gx_bind h
    refine cc_iV (As := [.int z0_20]) (rest := []) ⟨hx, hb, hml, hown, hts⟩ (k_X10_holds l D cI cZ ad u z0_20 hc5) (cwV 1 hts (gwV mw_976 mw_978 mw_24 mw_59 mw_979) rfl rfl rfl (by decide +kernel) ⟨Nat.le_of_ble_eq_true rfl, Nat.le_of_ble_eq_true rfl⟩) hK hP hD hS hA hZ (ci := 10) (q0 := 0) rfl rfl rfl hl.1 rfl (Nat.le_of_ble_eq_true rfl) dX10_isOn_20 ⟨Nat.zero_le _, Nat.zero_le _⟩ (fun H locs hP hD hS => ?_)
    refine lv_if_eq (tgt := 38) hx hb dX10_isOn_23 (by decide) (fun c6 => ?_) (fun c6 => ?_)
    · replace h := gx_t c6 h
      refine lv_iconst (v := 0) hx hb dX10_isOn_38 (by decide) ?_
      cases h
      exact cc_ret hx hb hr rfl hQ hK hP hD hS rfl dX10_isOn_39 hlocks
    · replace h := gx_f c6 h
      refine lv_aload_n hx hb dX10_isOn_26 rfl (lv_at hl 0 rfl) ?_
      refine lv_iload_n hx hb dX10_isOn_27 rfl (lv_at hl 1 rfl) ?_
      obtain ⟨y7, hc8, h⟩ := gx_bind h
      refine cc_iV (As := [.int p0]) (rest := []) ⟨hx, hb, hml, hown, hts⟩ (k_X10_isOnNow l D cI cZ ad y4.2 p0 hc8) (cwV 1 hts (gwV mw_863 mw_865 mw_22 mw_59 mw_866) rfl rfl rfl (by decide +kernel) ⟨Nat.le_of_ble_eq_true rfl, Nat.le_of_ble_eq_true rfl⟩) hK hP hD hS hA hZ (ci := 10) (q0 := 0) rfl rfl rfl hl.1 rfl (Nat.le_of_ble_eq_true rfl) dX10_isOn_28 ⟨Nat.zero_le _, Nat.zero_le _⟩ (fun H locs hP hD hS => ?_)
      refine lv_if_eq (tgt := 38) hx hb dX10_isOn_31 (by decide) (fun c9 => ?_) (fun c9 => ?_)
      · replace h := gx_t c9 h
        refine lv_iconst (v := 0) hx hb dX10_isOn_38 (by decide) ?_
        cases h
        exact cc_ret hx hb hr rfl hQ hK hP hD hS rfl dX10_isOn_39 hlocks
      · replace h := gx_f c9 h
        refine lv_iconst (v := 1) hx hb dX10_isOn_34 (by decide) ?_
        refine lv_goto (tgt := 39) hx hb dX10_isOn_35 (by decide) ?_
        cases h
        exact cc_ret hx hb hr rfl hQ hK hP hD hS rfl dX10_isOn_39 hlocks
  refine lv_if_eq (tgt := 19) hx hb dX10_isOn_12 (by decide) (fun c10 => ?_) (fun c10 => ?_)
  · replace h := gx_t c10 h
    refine lv_iconst (v := 1) hx hb dX10_isOn_19 (by decide) ?_
    exact hj20_3 (1 : Int32) _ _ _ h hP hD hS (lv_sub hl [0, 1] rfl)
  · replace h := gx_f c10 h
    refine lv_iconst (v := 0) hx hb dX10_isOn_15 (by decide) ?_
    refine lv_goto (tgt := 20) hx hb dX10_isOn_16 (by decide) ?_
    exact hj20_3 (0 : Int32) _ _ _ h hP hD hS (lv_sub hl [0, 1] rfl)

def rX10_isKept : Room := { frames := 0, cells := 0, slots := 0, locals := 0 }
set_option maxHeartbeats 4000000 in
set_option maxRecDepth 100000 in
theorem k_X10_isKept (l : Launch) (D : va_G) (cI cZ : ClassId) (ad : Nat → Nat) (u : MS) (p0 : Int32) {r : Int32} (h : g_X10_isKept u p0 = some r) : MI l yX10_isKept (wm yX10_isKept cX10_isKept 2 (some .boolean)) rX10_isKept D [(cI, .int), (cZ, .boolean)] (wM cI cZ ad u) (wM cI cZ ad u) [.ref (ad 0), .int p0] r := by
  intro sz
  refine Met.ofW (cc := cX10_isKept) (maxL := 2) (ret := (some .boolean)) (by decide) rfl ?_
  intro p e s m args below meth c s₁ B hml hv
  obtain ⟨rfl, hsz, hP, hK, hD0, hZ⟩ := hv
  have hx := B.exec
  have hb := B.bytes
  have hr := B.returns
  have hts : ∀ w ∈ Wall, w.before _ s = true := fun w hw => atoms_spec (ws := wm yX10_isKept cX10_isKept 2 (some .boolean)) B.pre w (List.mem_cons_of_mem _ hw)
  have hown : s.vm.findClass RX10 = some m.cls := findClass_of_methodNamed B.named
  have hlocks := B.notSynchronized
  subst hsz
  have hD := hD0.self (sz := s.heap.size)
  generalize hAe : va_A (wM cI cZ ad u) s.heap.size = A at hD hZ ⊢
  have hA : ∀ q : Nat, s.heap.size ≤ q → A q := fun q h => by rw [← hAe]; exact Or.inr h
  have hS : va_S A s.heap s.heap [] := va_S.rf
  have hf95 := hts _ mw_872
  have hl := lv_entry ([.ref (ad 0), .int p0]) (n := 2) (Nat.le_of_ble_eq_true rfl)
  rw [lg_entry_eq]
  generalize (lg_sl ([.ref (ad 0), .int p0]) ++ List.replicate (2 - (lg_sl ([.ref (ad 0), .int p0])).length) Slot.unset).toArray = ls at hl ⊢
  replace hl : lv_has ls 2 [(0, .ref (ad 0)), (1, .int p0)] := hl
  refine w_gen (fun Q hQ => ?_)
  refine lv_iload_n hx hb dX10_isKept_0 rfl (lv_at hl 1 rfl) ?_
  refine lv_aload_n hx hb dX10_isKept_1 rfl (lv_at hl 0 rfl) ?_
  refine va_get (D := D) (ci := 10) (v := .int (m_now u)) (C := RX10) (T := TX10) (N := 32) hx hb hts iX10 hown hK hP 0 rfl rfl 1 (by decide) hf95 (fun _ h9 => h9) rfl dX10_isKept_2 ?_
  refine lv_icmp_gt (tgt := 23) hx hb dX10_isKept_5 (by decide) (fun c1 => ?_) (fun c1 => ?_)
  · replace h := gx_t c1 h
    refine lv_iconst (v := 0) hx hb dX10_isKept_23 (by decide) ?_
    cases h
    exact cc_ret hx hb hr rfl hQ hK hP hD hS rfl dX10_isKept_24 hlocks
  · replace h := gx_f c1 h
    refine lv_iload_n hx hb dX10_isKept_8 rfl (lv_at hl 1 rfl) ?_
    refine lv_aload_n hx hb dX10_isKept_9 rfl (lv_at hl 0 rfl) ?_
    refine va_get (D := D) (ci := 10) (v := .int (m_now u)) (C := RX10) (T := TX10) (N := 32) hx hb hts iX10 hown hK hP 0 rfl rfl 1 (by decide) hf95 (fun _ h9 => h9) rfl dX10_isKept_10 ?_
    refine lv_bipush (v := 60) hx hb dX10_isKept_13 (by decide) ?_
    refine lv_isub hx hb dX10_isKept_15 ?_
    refine lv_icmp_le (tgt := 23) hx hb dX10_isKept_16 (by decide) (fun c2 => ?_) (fun c2 => ?_)
    · replace h := gx_t c2 h
      refine lv_iconst (v := 0) hx hb dX10_isKept_23 (by decide) ?_
      cases h
      exact cc_ret hx hb hr rfl hQ hK hP hD hS rfl dX10_isKept_24 hlocks
    · replace h := gx_f c2 h
      refine lv_iconst (v := 1) hx hb dX10_isKept_19 (by decide) ?_
      refine lv_goto (tgt := 24) hx hb dX10_isKept_20 (by decide) ?_
      cases h
      exact cc_ret hx hb hr rfl hQ hK hP hD hS rfl dX10_isKept_24 hlocks

def rX10_proofOf : Room := { frames := 0, cells := 0, slots := 0, locals := 0 }
set_option maxHeartbeats 4000000 in
set_option maxRecDepth 100000 in
theorem k_X10_proofOf (l : Launch) (D : va_G) (cI cZ : ClassId) (ad : Nat → Nat) (u : MS) (p0 : Int32) (p1 : Int32) (p2 : Int32) {r : Int32} (h : g_X10_proofOf u p0 p1 p2 = some r) : MI l yX10_proofOf (wm yX10_proofOf cX10_proofOf 4 (some .int)) rX10_proofOf D [(cI, .int), (cZ, .boolean)] (wM cI cZ ad u) (wM cI cZ ad u) [.ref (ad 0), .int p0, .int p1, .int p2] r := by
  intro sz
  refine Met.ofW (cc := cX10_proofOf) (maxL := 4) (ret := (some .int)) (by decide) rfl ?_
  intro p e s m args below meth c s₁ B hml hv
  obtain ⟨rfl, hsz, hP, hK, hD0, hZ⟩ := hv
  have hx := B.exec
  have hb := B.bytes
  have hr := B.returns
  have hts : ∀ w ∈ Wall, w.before _ s = true := fun w hw => atoms_spec (ws := wm yX10_proofOf cX10_proofOf 4 (some .int)) B.pre w (List.mem_cons_of_mem _ hw)
  have hown : s.vm.findClass RX10 = some m.cls := findClass_of_methodNamed B.named
  have hlocks := B.notSynchronized
  subst hsz
  have hD := hD0.self (sz := s.heap.size)
  generalize hAe : va_A (wM cI cZ ad u) s.heap.size = A at hD hZ ⊢
  have hA : ∀ q : Nat, s.heap.size ≤ q → A q := fun q h => by rw [← hAe]; exact Or.inr h
  have hS : va_S A s.heap s.heap [] := va_S.rf
  have hf77 := hts _ mw_902
  have hl := lv_entry ([.ref (ad 0), .int p0, .int p1, .int p2]) (n := 4) (Nat.le_of_ble_eq_true rfl)
  rw [lg_entry_eq]
  generalize (lg_sl ([.ref (ad 0), .int p0, .int p1, .int p2]) ++ List.replicate (4 - (lg_sl ([.ref (ad 0), .int p0, .int p1, .int p2])).length) Slot.unset).toArray = ls at hl ⊢
  replace hl : lv_has ls 4 [(0, .ref (ad 0)), (1, .int p0), (2, .int p1), (3, .int p2)] := hl
  refine w_gen (fun Q hQ => ?_)
  refine lv_aload_n hx hb dX10_proofOf_0 rfl (lv_at hl 0 rfl) ?_
  refine va_get (D := D) (ci := 10) (v := .ref (ad 23)) (C := RX10) (T := TX10) (N := 32) hx hb hts iX10 hown hK hP 0 rfl rfl 31 (by decide) hf77 (fun _ h9 => h9) rfl dX10_proofOf_1 ?_
  refine lv_bipush (v := 60) hx hb dX10_proofOf_4 (by decide) ?_
  refine lv_iload_n hx hb dX10_proofOf_6 rfl (lv_at hl 1 rfl) ?_
  refine lv_bipush (v := 60) hx hb dX10_proofOf_7 (by decide) ?_
  refine lv_irem hx hb dX10_proofOf_9 (by decide) ?_
  refine lv_imul hx hb dX10_proofOf_10 ?_
  refine lv_iconst (v := 5) hx hb dX10_proofOf_11 (by decide) ?_
  refine lv_iload_n hx hb dX10_proofOf_12 rfl (lv_at hl 2 rfl) ?_
  refine lv_imul hx hb dX10_proofOf_13 ?_
  refine lv_iadd hx hb dX10_proofOf_14 ?_
  refine lv_iload_n hx hb dX10_proofOf_15 rfl (lv_at hl 3 rfl) ?_
  refine lv_iadd hx hb dX10_proofOf_16 ?_
  obtain ⟨b1, h⟩ := gx_in h
  refine va_iald (D := D) hx hb hK hP 23 0 rfl rfl b1 dX10_proofOf_17 ?_
  cases h
  exact cc_ret hx hb hr rfl hQ hK hP hD hS rfl dX10_proofOf_18 hlocks

def rX10_proof : Room := { frames := 2, cells := 0, slots := 0, locals := 42 }
set_option maxHeartbeats 4000000 in
set_option maxRecDepth 100000 in
theorem k_X10_proof (l : Launch) (D : va_G) (cI cZ : ClassId) (ad : Nat → Nat) (u : MS) (p0 : Int32) (p1 : Int32) (p2 : Int32) {r : Int32} {w' : MS} (h : g_X10_proof u p0 p1 p2 = some (r, w')) : MI l yX10_proof (wm yX10_proof cX10_proof 4 (some .int)) rX10_proof D [(cI, .int), (cZ, .boolean)] (wM cI cZ ad u) (wM cI cZ ad w') [.ref (ad 0), .int p0, .int p1, .int p2] r := by
  intro sz
  refine Met.ofW (cc := cX10_proof) (maxL := 4) (ret := (some .int)) (by decide) rfl ?_
  intro p e s m args below meth c s₁ B hml hv
  obtain ⟨rfl, hsz, hP, hK, hD0, hZ⟩ := hv
  have hx := B.exec
  have hb := B.bytes
  have hr := B.returns
  have hts : ∀ w ∈ Wall, w.before _ s = true := fun w hw => atoms_spec (ws := wm yX10_proof cX10_proof 4 (some .int)) B.pre w (List.mem_cons_of_mem _ hw)
  have hown : s.vm.findClass RX10 = some m.cls := findClass_of_methodNamed B.named
  have hlocks := B.notSynchronized
  subst hsz
  have hD := hD0.self (sz := s.heap.size)
  generalize hAe : va_A (wM cI cZ ad u) s.heap.size = A at hD hZ ⊢
  have hA : ∀ q : Nat, s.heap.size ≤ q → A q := fun q h => by rw [← hAe]; exact Or.inr h
  have hS : va_S A s.heap s.heap [] := va_S.rf
  have hl := lv_entry ([.ref (ad 0), .int p0, .int p1, .int p2]) (n := 4) (Nat.le_of_ble_eq_true rfl)
  rw [lg_entry_eq]
  generalize (lg_sl ([.ref (ad 0), .int p0, .int p1, .int p2]) ++ List.replicate (4 - (lg_sl ([.ref (ad 0), .int p0, .int p1, .int p2])).length) Slot.unset).toArray = ls at hl ⊢
  replace hl : lv_has ls 4 [(0, .ref (ad 0)), (1, .int p0), (2, .int p1), (3, .int p2)] := hl
  refine w_gen (fun Q hQ => ?_)
  refine lv_aload_n hx hb dX10_proof_0 rfl (lv_at hl 0 rfl) ?_
  refine lv_iload_n hx hb dX10_proof_1 rfl (lv_at hl 2 rfl) ?_
  obtain ⟨y1, hc2, h⟩ := gx_bind h
  refine cc_iS (As := [.int p1]) (rest := [.ref (ad 0)]) ⟨hx, hb, hml, hown, hts⟩ (k_X10_isSection l D cI cZ ad u p1 hc2) (va_cwS 1 hts (gwS mw_1039 mw_1040 mw_59 mw_1041) rfl rfl rfl (by decide +kernel) ⟨Nat.le_of_ble_eq_true rfl, Nat.le_of_ble_eq_true rfl⟩) hK hP hD hS hA hZ rfl hl.1 rfl (Nat.le_of_ble_eq_true rfl) dX10_proof_2 ⟨Nat.zero_le _, Nat.zero_le _⟩ (fun H locs hP hD hS => ?_)
  obtain ⟨j42_3, ej42_3, h⟩ := gx_let h
  have hj42_3 : ∀ (z0_42 : Int32) (H : Heap) (locs : List Loc) (ls : Array Slot), j42_3 z0_42 = some (r, w') → va_P D vwCl (wM cI cZ ad u) H → va_D A (wM cI cZ ad u) → va_S A s.heap H locs → lv_has ls 4 [(0, .ref (ad 0)), (1, .int p0), (2, .int p1), (3, .int p2)] → W p l e rX10_proof s m ([.ref (ad 0), .int p0, .int p1, .int p2] : List Value).toArray below meth c H locs 0 0 Q (F0 m 42 ls [.int z0_42, .ref (ad 0)]) := by
    intro z0_42 H locs ls h hP hD hS hl
    subst ej42_3
    obtain ⟨y4, hc5, h⟩ := gx_bind h
    refine cc_iV (As := [.int z0_42]) (rest := []) ⟨hx, hb, hml, hown, hts⟩ (k_X10_holds l D cI cZ ad u z0_42 hc5) (cwV 1 hts (gwV mw_976 mw_978 mw_24 mw_59 mw_979) rfl rfl rfl (by decide +kernel) ⟨Nat.le_of_ble_eq_true rfl, Nat.le_of_ble_eq_true rfl⟩) hK hP hD hS hA hZ (ci := 10) (q0 := 0) rfl rfl rfl hl.1 rfl (Nat.le_of_ble_eq_true rfl) dX10_proof_42 ⟨Nat.zero_le _, Nat.zero_le _⟩ (fun H locs hP hD hS => ?_)
    refine lv_if_ne (tgt := 50) hx hb dX10_proof_45 (by decide) (fun c6 => ?_) (fun c6 => ?_)
    · replace h := gx_f c6 h
      refine lv_aload_n hx hb dX10_proof_50 rfl (lv_at hl 0 rfl) ?_
      refine lv_iload_n hx hb dX10_proof_51 rfl (lv_at hl 1 rfl) ?_
      refine lv_iload_n hx hb dX10_proof_52 rfl (lv_at hl 2 rfl) ?_
      refine lv_iload_n hx hb dX10_proof_53 rfl (lv_at hl 3 rfl) ?_
      obtain ⟨y7, hc8, h⟩ := gx_bind h
      refine cc_iV (As := [.int p0, .int p1, .int p2]) (rest := []) ⟨hx, hb, hml, hown, hts⟩ (k_X10_proofOf l D cI cZ ad y4.2 p0 p1 p2 hc8) (cwV 3 hts (gwV mw_1169 mw_1171 mw_46 mw_59 mw_1172) rfl rfl rfl (by decide +kernel) ⟨Nat.le_of_ble_eq_true rfl, Nat.le_of_ble_eq_true rfl⟩) hK hP hD hS hA hZ (ci := 10) (q0 := 0) rfl rfl rfl hl.1 rfl (Nat.le_of_ble_eq_true rfl) dX10_proof_54 ⟨Nat.zero_le _, Nat.zero_le _⟩ (fun H locs hP hD hS => ?_)
      cases h
      exact cc_ret hx hb hr rfl hQ hK hP hD hS rfl dX10_proof_57 hlocks
    · replace h := gx_t c6 h
      refine lv_iconst (v := 0) hx hb dX10_proof_48 (by decide) ?_
      cases h
      exact cc_ret hx hb hr rfl hQ hK hP hD hS rfl dX10_proof_49 hlocks
  refine lv_if_ne (tgt := 12) hx hb dX10_proof_5 (by decide) (fun c9 => ?_) (fun c9 => ?_)
  · replace h := gx_f c9 h
    refine lv_iload_n hx hb dX10_proof_12 rfl (lv_at hl 1 rfl) ?_
    obtain ⟨j25_10, ej25_10, h⟩ := gx_let h
    have hj25_10 : ∀ (H : Heap) (locs : List Loc) (ls : Array Slot), j25_10 () = some (r, w') → va_P D vwCl (wM cI cZ ad u) H → va_D A (wM cI cZ ad u) → va_S A s.heap H locs → lv_has ls 4 [(0, .ref (ad 0)), (1, .int p0), (2, .int p1), (3, .int p2)] → W p l e rX10_proof s m ([.ref (ad 0), .int p0, .int p1, .int p2] : List Value).toArray below meth c H locs 0 0 Q (F0 m 25 ls [.ref (ad 0)]) := by
      intro  H locs ls h hP hD hS hl
      subst ej25_10
      refine lv_iconst (v := 2) hx hb dX10_proof_25 (by decide) ?_
      refine lv_goto (tgt := 42) hx hb dX10_proof_26 (by decide) ?_
      exact hj42_3 (2 : Int32) _ _ _ h hP hD hS (lv_sub hl [0, 1, 2, 3] rfl)
    refine lv_if_lt (tgt := 25) hx hb dX10_proof_13 (by decide) (fun c11 => ?_) (fun c11 => ?_)
    · replace h := gx_t c11 h
      exact hj25_10 _ _ _ h hP hD hS (lv_sub hl [0, 1, 2, 3] rfl)
    · replace h := gx_f c11 h
      refine lv_iload_n hx hb dX10_proof_16 rfl (lv_at hl 3 rfl) ?_
      refine lv_iconst (v := 0) hx hb dX10_proof_17 (by decide) ?_
      refine lv_iconst (v := 4) hx hb dX10_proof_18 (by decide) ?_
      obtain ⟨y12, hc13, h⟩ := gx_bind h
      refine cc_iS (As := [.int p2, .int (0 : Int32), .int (4 : Int32)]) (rest := [.ref (ad 0)]) ⟨hx, hb, hml, hown, hts⟩ (k_X10_isIn l D cI cZ ad u p2 (0 : Int32) (4 : Int32) hc13) (va_cwS 3 hts (gwS mw_860 mw_861 mw_59 mw_862) rfl rfl rfl (by decide +kernel) ⟨Nat.le_of_ble_eq_true rfl, Nat.le_of_ble_eq_true rfl⟩) hK hP hD hS hA hZ rfl hl.1 rfl (Nat.le_of_ble_eq_true rfl) dX10_proof_19 ⟨Nat.zero_le _, Nat.zero_le _⟩ (fun H locs hP hD hS => ?_)
      refine lv_if_ne (tgt := 29) hx hb dX10_proof_22 (by decide) (fun c14 => ?_) (fun c14 => ?_)
      · replace h := gx_f c14 h
        refine lv_aload_n hx hb dX10_proof_29 rfl (lv_at hl 0 rfl) ?_
        refine lv_iload_n hx hb dX10_proof_30 rfl (lv_at hl 1 rfl) ?_
        obtain ⟨y15, hc16, h⟩ := gx_bind h
        refine cc_iV (As := [.int p0]) (rest := [.ref (ad 0)]) ⟨hx, hb, hml, hown, hts⟩ (k_X10_isKept l D cI cZ ad u p0 hc16) (cwV 1 hts (gwV mw_1165 mw_1167 mw_45 mw_59 mw_1168) rfl rfl rfl (by decide +kernel) ⟨Nat.le_of_ble_eq_true rfl, Nat.le_of_ble_eq_true rfl⟩) hK hP hD hS hA hZ (ci := 10) (q0 := 0) rfl rfl rfl hl.1 rfl (Nat.le_of_ble_eq_true rfl) dX10_proof_31 ⟨Nat.zero_le _, Nat.zero_le _⟩ (fun H locs hP hD hS => ?_)
        refine lv_if_eq (tgt := 41) hx hb dX10_proof_34 (by decide) (fun c17 => ?_) (fun c17 => ?_)
        · replace h := gx_t c17 h
          refine lv_iconst (v := 3) hx hb dX10_proof_41 (by decide) ?_
          exact hj42_3 (3 : Int32) _ _ _ h hP hD hS (lv_sub hl [0, 1, 2, 3] rfl)
        · replace h := gx_f c17 h
          refine lv_iconst (v := 0) hx hb dX10_proof_37 (by decide) ?_
          refine lv_goto (tgt := 42) hx hb dX10_proof_38 (by decide) ?_
          exact hj42_3 (0 : Int32) _ _ _ h hP hD hS (lv_sub hl [0, 1, 2, 3] rfl)
      · replace h := gx_t c14 h
        exact hj25_10 _ _ _ h hP hD hS (lv_sub hl [0, 1, 2, 3] rfl)
  · replace h := gx_t c9 h
    refine lv_iconst (v := 1) hx hb dX10_proof_8 (by decide) ?_
    refine lv_goto (tgt := 42) hx hb dX10_proof_9 (by decide) ?_
    exact hj42_3 (1 : Int32) _ _ _ h hP hD hS (lv_sub hl [0, 1, 2, 3] rfl)
