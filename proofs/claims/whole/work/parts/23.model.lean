def rX10_isFined : Room := { frames := 2, cells := 0, slots := 0, locals := 42 }
set_option maxHeartbeats 4000000 in
set_option maxRecDepth 100000 in
theorem k_X10_isFined (l : Launch) (D : va_G) (cI cZ : ClassId) (ad : Nat → Nat) (u : MS) (p0 : Int32) (p1 : Int32) (p2 : Int32) {r : Int32} {w' : MS} (h : g_X10_isFined u p0 p1 p2 = some (r, w')) : MI l yX10_isFined (wm yX10_isFined cX10_isFined 4 (some .boolean)) rX10_isFined D [(cI, .int), (cZ, .boolean)] (wM cI cZ ad u) (wM cI cZ ad w') [.ref (ad 0), .int p0, .int p1, .int p2] r := by
  intro sz
  refine Met.ofW (cc := cX10_isFined) (maxL := 4) (ret := (some .boolean)) (by decide) rfl ?_
  intro p e s m args below meth c s₁ B hml hv
  obtain ⟨rfl, hsz, hP, hK, hD0, hZ⟩ := hv
  have hx := B.exec
  have hb := B.bytes
  have hr := B.returns
  have hts : ∀ w ∈ Wall, w.before _ s = true := fun w hw => atoms_spec (ws := wm yX10_isFined cX10_isFined 4 (some .boolean)) B.pre w (List.mem_cons_of_mem _ hw)
  have hown : s.vm.findClass RX10 = some m.cls := findClass_of_methodNamed B.named
  have hlocks := B.notSynchronized
  subst hsz
  have hD := hD0.self (sz := s.heap.size)
  generalize hAe : va_A (wM cI cZ ad u) s.heap.size = A at hD hZ ⊢
  have hA : ∀ q : Nat, s.heap.size ≤ q → A q := fun q h => by rw [← hAe]; exact Or.inr h
  have hS : va_S A s.heap s.heap [] := va_S.rf
  have hl := lv_entry ([.ref (ad 0), .int p0, .int p1, .int p2]) (n := 4) (Nat.le_of_ble_eq_true rfl)
  rw [lg_entry_eq]
  generalize (lg_sl ([.ref (ad 0), .int p0, .int p1, .int p2]) ++ List.replicate (4 - (lg_sl ([.ref (ad 0), .int p0, .int p1, .int p2])).length) Slot.unset).toArray = ls at hl ⊢
  replace hl : lv_has ls 4 [(0, .ref (ad 0)), (1, .int p0), (2, .int p1), (3, .int p2)] := hl
  refine w_gen (fun Q hQ => ?_)
  refine lv_aload_n hx hb dX10_isFined_0 rfl (lv_at hl 0 rfl) ?_
  refine lv_iload_n hx hb dX10_isFined_1 rfl (lv_at hl 2 rfl) ?_
  obtain ⟨y1, hc2, h⟩ := gx_bind h
  refine cc_iS (As := [.int p1]) (rest := [.ref (ad 0)]) ⟨hx, hb, hml, hown, hts⟩ (k_X10_isSection l D cI cZ ad u p1 hc2) (va_cwS 1 hts (gwS mw_1039 mw_1040 mw_59 mw_1041) rfl rfl rfl (by decide +kernel) ⟨Nat.le_of_ble_eq_true rfl, Nat.le_of_ble_eq_true rfl⟩) hK hP hD hS hA hZ rfl hl.1 rfl (Nat.le_of_ble_eq_true rfl) dX10_isFined_2 ⟨Nat.zero_le _, Nat.zero_le _⟩ (fun H locs hP hD hS => ?_)
  obtain ⟨j44_3, ej44_3, h⟩ := gx_let h
  have hj44_3 : ∀ (z0_44 : Int32) (H : Heap) (locs : List Loc) (ls : Array Slot), j44_3 z0_44 = some (r, w') → va_P D vwCl (wM cI cZ ad u) H → va_D A (wM cI cZ ad u) → va_S A s.heap H locs → lv_has ls 4 [(0, .ref (ad 0)), (1, .int p0), (2, .int p1), (3, .int p2)] → W p l e rX10_isFined s m ([.ref (ad 0), .int p0, .int p1, .int p2] : List Value).toArray below meth c H locs 0 0 Q (F0 m 44 ls [.int z0_44, .ref (ad 0)]) := by
    intro z0_44 H locs ls h hP hD hS hl
    subst ej44_3
    obtain ⟨y4, hc5, h⟩ := gx_bind h
    refine cc_iV (As := [.int z0_44]) (rest := []) ⟨hx, hb, hml, hown, hts⟩ (k_X10_holds l D cI cZ ad u z0_44 hc5) (cwV 1 hts (gwV mw_976 mw_978 mw_24 mw_59 mw_979) rfl rfl rfl (by decide +kernel) ⟨Nat.le_of_ble_eq_true rfl, Nat.le_of_ble_eq_true rfl⟩) hK hP hD hS hA hZ (ci := 10) (q0 := 0) rfl rfl rfl hl.1 rfl (Nat.le_of_ble_eq_true rfl) dX10_isFined_44 ⟨Nat.zero_le _, Nat.zero_le _⟩ (fun H locs hP hD hS => ?_)
    refine lv_if_ne (tgt := 52) hx hb dX10_isFined_47 (by decide) (fun c6 => ?_) (fun c6 => ?_)
    · replace h := gx_f c6 h
      refine lv_iload_n hx hb dX10_isFined_52 rfl (lv_at hl 3 rfl) ?_
      refine lv_aload_n hx hb dX10_isFined_53 rfl (lv_at hl 0 rfl) ?_
      refine lv_iload_n hx hb dX10_isFined_54 rfl (lv_at hl 1 rfl) ?_
      refine lv_iload_n hx hb dX10_isFined_55 rfl (lv_at hl 2 rfl) ?_
      refine lv_iconst (v := 0) hx hb dX10_isFined_56 (by decide) ?_
      obtain ⟨y7, hc8, h⟩ := gx_bind h
      refine cc_iV (As := [.int p0, .int p1, .int (0 : Int32)]) (rest := [.int p2]) ⟨hx, hb, hml, hown, hts⟩ (k_X10_proofOf l D cI cZ ad y4.2 p0 p1 (0 : Int32) hc8) (cwV 3 hts (gwV mw_1169 mw_1171 mw_46 mw_59 mw_1172) rfl rfl rfl (by decide +kernel) ⟨Nat.le_of_ble_eq_true rfl, Nat.le_of_ble_eq_true rfl⟩) hK hP hD hS hA hZ (ci := 10) (q0 := 0) rfl rfl rfl hl.1 rfl (Nat.le_of_ble_eq_true rfl) dX10_isFined_57 ⟨Nat.zero_le _, Nat.zero_le _⟩ (fun H locs hP hD hS => ?_)
      refine lv_bipush (v := 10) hx hb dX10_isFined_60 (by decide) ?_
      refine lv_iadd hx hb dX10_isFined_62 ?_
      refine lv_icmp_lt (tgt := 70) hx hb dX10_isFined_63 (by decide) (fun c9 => ?_) (fun c9 => ?_)
      · replace h := gx_t c9 h
        refine lv_iconst (v := 0) hx hb dX10_isFined_70 (by decide) ?_
        cases h
        exact cc_ret hx hb hr rfl hQ hK hP hD hS rfl dX10_isFined_71 hlocks
      · replace h := gx_f c9 h
        refine lv_iconst (v := 1) hx hb dX10_isFined_66 (by decide) ?_
        refine lv_goto (tgt := 71) hx hb dX10_isFined_67 (by decide) ?_
        cases h
        exact cc_ret hx hb hr rfl hQ hK hP hD hS rfl dX10_isFined_71 hlocks
    · replace h := gx_t c6 h
      refine lv_iconst (v := 0) hx hb dX10_isFined_50 (by decide) ?_
      cases h
      exact cc_ret hx hb hr rfl hQ hK hP hD hS rfl dX10_isFined_51 hlocks
  refine lv_if_ne (tgt := 12) hx hb dX10_isFined_5 (by decide) (fun c10 => ?_) (fun c10 => ?_)
  · replace h := gx_f c10 h
    refine lv_iload_n hx hb dX10_isFined_12 rfl (lv_at hl 1 rfl) ?_
    obtain ⟨j27_11, ej27_11, h⟩ := gx_let h
    have hj27_11 : ∀ (H : Heap) (locs : List Loc) (ls : Array Slot), j27_11 () = some (r, w') → va_P D vwCl (wM cI cZ ad u) H → va_D A (wM cI cZ ad u) → va_S A s.heap H locs → lv_has ls 4 [(0, .ref (ad 0)), (1, .int p0), (2, .int p1), (3, .int p2)] → W p l e rX10_isFined s m ([.ref (ad 0), .int p0, .int p1, .int p2] : List Value).toArray below meth c H locs 0 0 Q (F0 m 27 ls [.ref (ad 0)]) := by
      intro  H locs ls h hP hD hS hl
      subst ej27_11
      refine lv_iconst (v := 2) hx hb dX10_isFined_27 (by decide) ?_
      refine lv_goto (tgt := 44) hx hb dX10_isFined_28 (by decide) ?_
      exact hj44_3 (2 : Int32) _ _ _ h hP hD hS (lv_sub hl [0, 1, 2, 3] rfl)
    refine lv_if_lt (tgt := 27) hx hb dX10_isFined_13 (by decide) (fun c12 => ?_) (fun c12 => ?_)
    · replace h := gx_t c12 h
      exact hj27_11 _ _ _ h hP hD hS (lv_sub hl [0, 1, 2, 3] rfl)
    · replace h := gx_f c12 h
      refine lv_iload_n hx hb dX10_isFined_16 rfl (lv_at hl 3 rfl) ?_
      refine lv_iconst (v := 0) hx hb dX10_isFined_17 (by decide) ?_
      refine lv_sipush (v := 250) hx hb dX10_isFined_18 (by decide) ?_
      obtain ⟨y13, hc14, h⟩ := gx_bind h
      refine cc_iS (As := [.int p2, .int (0 : Int32), .int (250 : Int32)]) (rest := [.ref (ad 0)]) ⟨hx, hb, hml, hown, hts⟩ (k_X10_isIn l D cI cZ ad u p2 (0 : Int32) (250 : Int32) hc14) (va_cwS 3 hts (gwS mw_860 mw_861 mw_59 mw_862) rfl rfl rfl (by decide +kernel) ⟨Nat.le_of_ble_eq_true rfl, Nat.le_of_ble_eq_true rfl⟩) hK hP hD hS hA hZ rfl hl.1 rfl (Nat.le_of_ble_eq_true rfl) dX10_isFined_21 ⟨Nat.zero_le _, Nat.zero_le _⟩ (fun H locs hP hD hS => ?_)
      refine lv_if_ne (tgt := 31) hx hb dX10_isFined_24 (by decide) (fun c15 => ?_) (fun c15 => ?_)
      · replace h := gx_f c15 h
        refine lv_aload_n hx hb dX10_isFined_31 rfl (lv_at hl 0 rfl) ?_
        refine lv_iload_n hx hb dX10_isFined_32 rfl (lv_at hl 1 rfl) ?_
        obtain ⟨y16, hc17, h⟩ := gx_bind h
        refine cc_iV (As := [.int p0]) (rest := [.ref (ad 0)]) ⟨hx, hb, hml, hown, hts⟩ (k_X10_isKept l D cI cZ ad u p0 hc17) (cwV 1 hts (gwV mw_1165 mw_1167 mw_45 mw_59 mw_1168) rfl rfl rfl (by decide +kernel) ⟨Nat.le_of_ble_eq_true rfl, Nat.le_of_ble_eq_true rfl⟩) hK hP hD hS hA hZ (ci := 10) (q0 := 0) rfl rfl rfl hl.1 rfl (Nat.le_of_ble_eq_true rfl) dX10_isFined_33 ⟨Nat.zero_le _, Nat.zero_le _⟩ (fun H locs hP hD hS => ?_)
        refine lv_if_eq (tgt := 43) hx hb dX10_isFined_36 (by decide) (fun c18 => ?_) (fun c18 => ?_)
        · replace h := gx_t c18 h
          refine lv_iconst (v := 3) hx hb dX10_isFined_43 (by decide) ?_
          exact hj44_3 (3 : Int32) _ _ _ h hP hD hS (lv_sub hl [0, 1, 2, 3] rfl)
        · replace h := gx_f c18 h
          refine lv_iconst (v := 0) hx hb dX10_isFined_39 (by decide) ?_
          refine lv_goto (tgt := 44) hx hb dX10_isFined_40 (by decide) ?_
          exact hj44_3 (0 : Int32) _ _ _ h hP hD hS (lv_sub hl [0, 1, 2, 3] rfl)
      · replace h := gx_t c15 h
        exact hj27_11 _ _ _ h hP hD hS (lv_sub hl [0, 1, 2, 3] rfl)
  · replace h := gx_t c10 h
    refine lv_iconst (v := 1) hx hb dX10_isFined_8 (by decide) ?_
    refine lv_goto (tgt := 44) hx hb dX10_isFined_9 (by decide) ?_
    exact hj44_3 (1 : Int32) _ _ _ h hP hD hS (lv_sub hl [0, 1, 2, 3] rfl)
