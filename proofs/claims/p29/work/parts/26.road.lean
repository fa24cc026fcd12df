def rL_isShown : Room := { frames := 6, cells := 0, slots := 0, locals := 136 }
set_option maxHeartbeats 4000000 in
set_option maxRecDepth 100000 in
theorem k_L_isShown (l : Launch) (D : va_G) (cI cZ : ClassId) (ad : Nat → Nat) (u : GS) (p0 : Int32) {r : Int32} {w' : GS} (h : g_L_isShown u p0 = some (.inl r, w')) : MI l yL_isShown (wm yL_isShown cL_isShown 6 (some .boolean)) rL_isShown D [(cI, .int), (cZ, .boolean)] (wC cI cZ ad u) (wC cI cZ ad w') [.ref (ad 0), .int p0] r := by
  intro sz
  refine Met.ofW (cc := cL_isShown) (maxL := 6) (ret := (some .boolean)) (by decide) rfl ?_
  intro p e s m args below meth c s₁ B hml hv
  obtain ⟨rfl, hsz, hP, hK, hD0, hZ⟩ := hv
  have hx := B.exec
  have hb := B.bytes
  have hr := B.returns
  have hts : ∀ w ∈ Wall, w.before _ s = true := fun w hw => atoms_spec (ws := wm yL_isShown cL_isShown 6 (some .boolean)) B.pre w (List.mem_cons_of_mem _ hw)
  have hown : s.vm.findClass RL = some m.cls := findClass_of_methodNamed B.named
  have hlocks := B.notSynchronized
  subst hsz
  have hD := hD0.self (sz := s.heap.size)
  generalize hAe : va_A (wC cI cZ ad u) s.heap.size = A at hD hZ ⊢
  have hA : ∀ q : Nat, s.heap.size ≤ q → A q := fun q h => by rw [← hAe]; exact Or.inr h
  have hS : va_S A s.heap s.heap [] := va_S.rf
  have hl := lv_entry ([.ref (ad 0), .int p0]) (n := 6) (Nat.le_of_ble_eq_true rfl)
  rw [lg_entry_eq]
  generalize (lg_sl ([.ref (ad 0), .int p0]) ++ List.replicate (6 - (lg_sl ([.ref (ad 0), .int p0])).length) Slot.unset).toArray = ls at hl ⊢
  replace hl : lv_has ls 6 [(0, .ref (ad 0)), (1, .int p0)] := hl
  refine w_gen (fun Q hQ => ?_)
  refine lv_iload_n hx hb dL_isShown_0 rfl (lv_at hl 1 rfl) ?_
  refine lv_bipush (v := 60) hx hb dL_isShown_1 (by decide) ?_
  obtain ⟨j28_1, ej28_1, h⟩ := gx_let h
  have hj28_1 : ∀ (z0_28 : Int32) (w28 : GS) (H : Heap) (locs : List Loc) (ls : Array Slot), j28_1 z0_28 w28 = some (.inl r, w') → va_P D vwCl (wC cI cZ ad w28) H → va_D A (wC cI cZ ad w28) → va_S A s.heap H locs → lv_has ls 6 [(0, .ref (ad 0)), (1, .int p0)] → W p l e rL_isShown s m ([.ref (ad 0), .int p0] : List Value).toArray below meth c H locs 0 0 Q (F0 m 28 ls [.int z0_28]) := by
    intro z0_28 w28 H locs ls h hP hD hS hl
    subst ej28_1
    refine lv_istore_n (lv' := [(2, .int z0_28), (0, .ref (ad 0)), (1, .int p0)]) hx hb dL_isShown_28 rfl hl (by decide) rfl (fun ls hl => ?_)
    refine lv_iconst (v := 0) hx hb dL_isShown_29 (by decide) ?_
    refine lv_istore_n (lv' := [(3, .int (0 : Int32)), (2, .int z0_28), (0, .ref (ad 0)), (1, .int p0)]) hx hb dL_isShown_30 rfl hl (by decide) rfl (fun ls hl => ?_)
    have hL31 : ∀ (k : Int32 → GS → Option (g_X × GS)) (hk : ∀ (x2_31 : Int32) (w31 : GS) (H : Heap) (locs : List Loc) (ls : Array Slot), k x2_31 w31 = some (.inl r, w') → va_P D vwCl (wC cI cZ ad w31) H → va_D A (wC cI cZ ad w31) → va_S A s.heap H locs → lv_has ls 6 [(2, .int x2_31)] → W p l e rL_isShown s m ([.ref (ad 0), .int p0] : List Value).toArray below meth c H locs 0 0 Q (F0 m 162 ls [])) (n : Nat) (x2_31 : Int32) (x3_31 : Int32) (w31 : GS) (H : Heap) (locs : List Loc) (ls : Array Slot), lp_L_isShown_31 p0 k n x2_31 x3_31 w31 = some (.inl r, w') → va_P D vwCl (wC cI cZ ad w31) H → va_D A (wC cI cZ ad w31) → va_S A s.heap H locs → lv_has ls 6 [(0, .ref (ad 0)), (1, .int p0), (2, .int x2_31), (3, .int x3_31)] → W p l e rL_isShown s m ([.ref (ad 0), .int p0] : List Value).toArray below meth c H locs 0 0 Q (F0 m 31 ls []) := by
      intro k hk n
      induction n with
      | zero =>
        intro x2_31 x3_31 w31 H locs ls h
        rw [lp_L_isShown_31] at h
        cases h
      | succ n ih =>
        intro x2_31 x3_31 w31 H locs ls h hP hD hS hl
        rw [lp_L_isShown_31] at h
        refine lv_iload_n hx hb dL_isShown_31 rfl (lv_at hl 3 rfl) ?_
        refine lv_bipush (v := 12) hx hb dL_isShown_32 (by decide) ?_
        refine lv_icmp_ge (tgt := 162) hx hb dL_isShown_34 (by decide) (fun c2 => ?_) (fun c2 => ?_)
        · replace h := gx_t c2 h
          exact hk x2_31 w31 _ _ _ h hP hD hS (lv_sub hl [2] rfl)
        · replace h := gx_f c2 h
          refine lv_iload_n hx hb dL_isShown_37 rfl (lv_at hl 2 rfl) ?_
          refine lv_if_eq (tgt := 162) hx hb dL_isShown_38 (by decide) (fun c3 => ?_) (fun c3 => ?_)
          · replace h := gx_t c3 h
            exact hk x2_31 w31 _ _ _ h hP hD hS (lv_sub hl [2] rfl)
          · replace h := gx_f c3 h
            refine lv_aload_n hx hb dL_isShown_41 rfl (lv_at hl 0 rfl) ?_
            refine lv_iload_n hx hb dL_isShown_42 rfl (lv_at hl 3 rfl) ?_
            refine lv_iconst (v := 3) hx hb dL_isShown_43 (by decide) ?_
            obtain ⟨y4, u5, hc6, h⟩ := gx_xr h
            refine cc_iV (As := [.int x3_31, .int (3 : Int32)]) (rest := []) ⟨hx, hb, hml, hown, hts⟩ (k_X9_section l D cI cZ ad w31 x3_31 (3 : Int32) hc6) (cwV 2 hts (gwV mw_625 mw_626 mw_627 mw_19 mw_628) rfl rfl rfl (by decide +kernel) ⟨Nat.le_of_ble_eq_true rfl, Nat.le_of_ble_eq_true rfl⟩) hK hP hD hS hA hZ (ci := 9) (q0 := 0) rfl rfl rfl hl.1 rfl (Nat.le_of_ble_eq_true rfl) dL_isShown_44 ⟨Nat.zero_le _, Nat.zero_le _⟩ (fun H locs hP hD hS => ?_)
            refine lv_istore (lv' := [(4, .int y4), (0, .ref (ad 0)), (1, .int p0), (2, .int x2_31), (3, .int x3_31)]) hx hb dL_isShown_47 hl (by decide) rfl (fun ls hl => ?_)
            refine lv_aload_n hx hb dL_isShown_49 rfl (lv_at hl 1 rfl) ?_
            refine lv_iload_n hx hb dL_isShown_50 rfl (lv_at hl 2 rfl) ?_
            refine lv_iload_n hx hb dL_isShown_51 rfl (lv_at hl 4 rfl) ?_
            refine lv_iconst (v := 0) hx hb dL_isShown_52 (by decide) ?_
            obtain ⟨y7, u8, hc9, h⟩ := gx_xr h
            refine cc_iV (As := [.int p0, .int x3_31, .int (0 : Int32)]) (rest := []) ⟨hx, hb, hml, hown, hts⟩ (k_X9_proof l D cI cZ ad u5 p0 x3_31 (0 : Int32) hc9) (cwV 3 hts (gwV mw_428 mw_429 mw_430 mw_19 mw_431) rfl rfl rfl (by decide +kernel) ⟨Nat.le_of_ble_eq_true rfl, Nat.le_of_ble_eq_true rfl⟩) hK hP hD hS hA hZ (ci := 9) (q0 := 0) rfl rfl rfl hl.1 rfl (Nat.le_of_ble_eq_true rfl) dL_isShown_53 ⟨Nat.zero_le _, Nat.zero_le _⟩ (fun H locs hP hD hS => ?_)
            refine lv_iload hx hb dL_isShown_56 (lv_at hl 0 rfl) ?_
            obtain ⟨j110_10, ej110_10, h⟩ := gx_let h
            have hj110_10 : ∀ (z0_110 : Int32) (w110 : GS) (H : Heap) (locs : List Loc) (ls : Array Slot), j110_10 z0_110 w110 = some (.inl r, w') → va_P D vwCl (wC cI cZ ad w110) H → va_D A (wC cI cZ ad w110) → va_S A s.heap H locs → lv_has ls 6 [(0, .ref (ad 0)), (1, .int p0), (3, .int x3_31)] → W p l e rL_isShown s m ([.ref (ad 0), .int p0] : List Value).toArray below meth c H locs 0 0 Q (F0 m 110 ls [.int z0_110]) := by
              intro z0_110 w110 H locs ls h hP hD hS hl
              subst ej110_10
              refine lv_istore_n (lv' := [(2, .int z0_110), (0, .ref (ad 0)), (1, .int p0), (3, .int x3_31)]) hx hb dL_isShown_110 rfl hl (by decide) rfl (fun ls hl => ?_)
              refine lv_iconst (v := 0) hx hb dL_isShown_111 (by decide) ?_
              refine lv_istore (lv' := [(5, .int (0 : Int32)), (2, .int z0_110), (0, .ref (ad 0)), (1, .int p0), (3, .int x3_31)]) hx hb dL_isShown_112 hl (by decide) rfl (fun ls hl => ?_)
              have hL114 : ∀ (k : Int32 → GS → Option (g_X × GS)) (hk : ∀ (x2_114 : Int32) (w114 : GS) (H : Heap) (locs : List Loc) (ls : Array Slot), k x2_114 w114 = some (.inl r, w') → va_P D vwCl (wC cI cZ ad w114) H → va_D A (wC cI cZ ad w114) → va_S A s.heap H locs → lv_has ls 6 [(0, .ref (ad 0)), (1, .int p0), (2, .int x2_114), (3, .int x3_31)] → W p l e rL_isShown s m ([.ref (ad 0), .int p0] : List Value).toArray below meth c H locs 0 0 Q (F0 m 156 ls [])) (n : Nat) (x2_114 : Int32) (x5_114 : Int32) (w114 : GS) (H : Heap) (locs : List Loc) (ls : Array Slot), lp_L_isShown_114 p0 x3_31 k n x2_114 x5_114 w114 = some (.inl r, w') → va_P D vwCl (wC cI cZ ad w114) H → va_D A (wC cI cZ ad w114) → va_S A s.heap H locs → lv_has ls 6 [(0, .ref (ad 0)), (1, .int p0), (2, .int x2_114), (3, .int x3_31), (5, .int x5_114)] → W p l e rL_isShown s m ([.ref (ad 0), .int p0] : List Value).toArray below meth c H locs 0 0 Q (F0 m 114 ls []) := by
                intro k hk n
                induction n with
                | zero =>
                  intro x2_114 x5_114 w114 H locs ls h
                  rw [lp_L_isShown_114] at h
                  cases h
                | succ n ih =>
                  intro x2_114 x5_114 w114 H locs ls h hP hD hS hl
                  rw [lp_L_isShown_114] at h
                  refine lv_iload hx hb dL_isShown_114 (lv_at hl 4 rfl) ?_
                  refine lv_iconst (v := 4) hx hb dL_isShown_116 (by decide) ?_
                  refine lv_icmp_ge (tgt := 156) hx hb dL_isShown_117 (by decide) (fun c11 => ?_) (fun c11 => ?_)
                  · replace h := gx_t c11 h
                    exact hk x2_114 w114 _ _ _ h hP hD hS (lv_sub hl [0, 1, 2, 3] rfl)
                  · replace h := gx_f c11 h
                    refine lv_iload_n hx hb dL_isShown_120 rfl (lv_at hl 2 rfl) ?_
                    obtain ⟨j149_12, ej149_12, h⟩ := gx_let h
                    have hj149_12 : ∀ (z0_149 : Int32) (w149 : GS) (H : Heap) (locs : List Loc) (ls : Array Slot), j149_12 z0_149 w149 = some (.inl r, w') → va_P D vwCl (wC cI cZ ad w149) H → va_D A (wC cI cZ ad w149) → va_S A s.heap H locs → lv_has ls 6 [(0, .ref (ad 0)), (1, .int p0), (3, .int x3_31), (5, .int x5_114)] → W p l e rL_isShown s m ([.ref (ad 0), .int p0] : List Value).toArray below meth c H locs 0 0 Q (F0 m 149 ls [.int z0_149]) := by
                      intro z0_149 w149 H locs ls h hP hD hS hl
                      subst ej149_12
                      refine lv_istore_n (lv' := [(2, .int z0_149), (0, .ref (ad 0)), (1, .int p0), (3, .int x3_31), (5, .int x5_114)]) hx hb dL_isShown_149 rfl hl (by decide) rfl (fun ls hl => ?_)
                      obtain ⟨v13, ev13, h⟩ := gx_let h
                      refine lv_iinc (v := v13) (lv' := [(5, .int v13), (2, .int z0_149), (0, .ref (ad 0)), (1, .int p0), (3, .int x3_31)]) hx hb dL_isShown_150 hl (k := 4) rfl (by rw [← ev13]; rfl) (by decide) rfl (fun ls hl => ?_)
                      refine lv_goto (tgt := 114) hx hb dL_isShown_153 (by decide) ?_
                      exact ih z0_149 v13 w149 _ _ _ h hP hD hS (lv_sub hl [2, 3, 1, 4, 0] rfl)
                    obtain ⟨j148_14, ej148_14, h⟩ := gx_let h
                    have hj148_14 : ∀ (w148 : GS) (H : Heap) (locs : List Loc) (ls : Array Slot), j148_14 w148 = some (.inl r, w') → va_P D vwCl (wC cI cZ ad w148) H → va_D A (wC cI cZ ad w148) → va_S A s.heap H locs → lv_has ls 6 [(0, .ref (ad 0)), (1, .int p0), (3, .int x3_31), (5, .int x5_114)] → W p l e rL_isShown s m ([.ref (ad 0), .int p0] : List Value).toArray below meth c H locs 0 0 Q (F0 m 148 ls []) := by
                      intro w148 H locs ls h hP hD hS hl
                      subst ej148_14
                      refine lv_iconst (v := 0) hx hb dL_isShown_148 (by decide) ?_
                      exact hj149_12 (0 : Int32) w148 _ _ _ h hP hD hS (lv_sub hl [0, 1, 2, 3] rfl)
                    refine lv_if_eq (tgt := 148) hx hb dL_isShown_121 (by decide) (fun c15 => ?_) (fun c15 => ?_)
                    · replace h := gx_t c15 h
                      exact hj148_14 w114 _ _ _ h hP hD hS (lv_sub hl [0, 1, 3, 4] rfl)
                    · replace h := gx_f c15 h
                      refine lv_aload_n hx hb dL_isShown_124 rfl (lv_at hl 0 rfl) ?_
                      refine lv_iload_n hx hb dL_isShown_125 rfl (lv_at hl 1 rfl) ?_
                      refine lv_iload_n hx hb dL_isShown_126 rfl (lv_at hl 3 rfl) ?_
                      refine lv_iconst (v := 1) hx hb dL_isShown_127 (by decide) ?_
                      refine lv_iload hx hb dL_isShown_128 (lv_at hl 4 rfl) ?_
                      refine lv_iadd hx hb dL_isShown_130 ?_
                      obtain ⟨y16, u17, hc18, h⟩ := gx_xr h
                      refine cc_iV (As := [.int p0, .int x3_31, .int ((1 : Int32) + x5_114)]) (rest := []) ⟨hx, hb, hml, hown, hts⟩ (k_X9_proof l D cI cZ ad w114 p0 x3_31 ((1 : Int32) + x5_114) hc18) (cwV 3 hts (gwV mw_428 mw_429 mw_430 mw_19 mw_431) rfl rfl rfl (by decide +kernel) ⟨Nat.le_of_ble_eq_true rfl, Nat.le_of_ble_eq_true rfl⟩) hK hP hD hS hA hZ (ci := 9) (q0 := 0) rfl rfl rfl hl.1 rfl (Nat.le_of_ble_eq_true rfl) dL_isShown_131 ⟨Nat.zero_le _, Nat.zero_le _⟩ (fun H locs hP hD hS => ?_)
                      refine lv_aload_n hx hb dL_isShown_134 rfl (lv_at hl 0 rfl) ?_
                      refine lv_iload_n hx hb dL_isShown_135 rfl (lv_at hl 3 rfl) ?_
                      refine lv_iload hx hb dL_isShown_136 (lv_at hl 4 rfl) ?_
                      obtain ⟨y19, u20, hc21, h⟩ := gx_xr h
                      refine cc_iV (As := [.int x3_31, .int x5_114]) (rest := [.int y16]) ⟨hx, hb, hml, hown, hts⟩ (k_X9_sign l D cI cZ ad u17 x3_31 x5_114 hc21) (cwV 2 hts (gwV mw_305 mw_306 mw_307 mw_19 mw_308) rfl rfl rfl (by decide +kernel) ⟨Nat.le_of_ble_eq_true rfl, Nat.le_of_ble_eq_true rfl⟩) hK hP hD hS hA hZ (ci := 9) (q0 := 0) rfl rfl rfl hl.1 rfl (Nat.le_of_ble_eq_true rfl) dL_isShown_138 ⟨Nat.zero_le _, Nat.zero_le _⟩ (fun H locs hP hD hS => ?_)
                      refine lv_icmp_ne (tgt := 148) hx hb dL_isShown_141 (by decide) (fun c22 => ?_) (fun c22 => ?_)
                      · replace h := gx_f c22 h
                        exact hj148_14 u20 _ _ _ h hP hD hS (lv_sub hl [0, 1, 3, 4] rfl)
                      · replace h := gx_t c22 h
                        refine lv_iconst (v := 1) hx hb dL_isShown_144 (by decide) ?_
                        refine lv_goto (tgt := 149) hx hb dL_isShown_145 (by decide) ?_
                        exact hj149_12 (1 : Int32) u20 _ _ _ h hP hD hS (lv_sub hl [0, 1, 3, 4] rfl)
              refine hL114 _ (fun x2_114 w114 H locs ls h hP hD hS hl => ?_) FU z0_110 (0 : Int32) w110 _ _ _ h hP hD hS (lv_sub hl [2, 3, 1, 4, 0] rfl)
              obtain ⟨v23, ev23, h⟩ := gx_let h
              refine lv_iinc (v := v23) (lv' := [(3, .int v23), (0, .ref (ad 0)), (1, .int p0), (2, .int x2_114)]) hx hb dL_isShown_156 hl (k := 3) rfl (by rw [← ev23]; rfl) (by decide) rfl (fun ls hl => ?_)
              refine lv_goto (tgt := 31) hx hb dL_isShown_159 (by decide) ?_
              exact ih x2_114 v23 w114 _ _ _ h hP hD hS (lv_sub hl [1, 2, 3, 0] rfl)
            obtain ⟨j109_24, ej109_24, h⟩ := gx_let h
            have hj109_24 : ∀ (w109 : GS) (H : Heap) (locs : List Loc) (ls : Array Slot), j109_24 w109 = some (.inl r, w') → va_P D vwCl (wC cI cZ ad w109) H → va_D A (wC cI cZ ad w109) → va_S A s.heap H locs → lv_has ls 6 [(0, .ref (ad 0)), (1, .int p0), (3, .int x3_31)] → W p l e rL_isShown s m ([.ref (ad 0), .int p0] : List Value).toArray below meth c H locs 0 0 Q (F0 m 109 ls []) := by
              intro w109 H locs ls h hP hD hS hl
              subst ej109_24
              refine lv_iconst (v := 0) hx hb dL_isShown_109 (by decide) ?_
              exact hj110_10 (0 : Int32) w109 _ _ _ h hP hD hS (lv_sub hl [0, 1, 2] rfl)
            refine lv_icmp_ne (tgt := 109) hx hb dL_isShown_58 (by decide) (fun c25 => ?_) (fun c25 => ?_)
            · replace h := gx_f c25 h
              exact hj109_24 u8 _ _ _ h hP hD hS (lv_sub hl [1, 2, 4] rfl)
            · replace h := gx_t c25 h
              refine lv_iload hx hb dL_isShown_61 (lv_at hl 0 rfl) ?_
              refine lv_bipush (v := 40) hx hb dL_isShown_63 (by decide) ?_
              refine lv_icmp_lt (tgt := 109) hx hb dL_isShown_65 (by decide) (fun c26 => ?_) (fun c26 => ?_)
              · replace h := gx_t c26 h
                exact hj109_24 u8 _ _ _ h hP hD hS (lv_sub hl [1, 2, 4] rfl)
              · replace h := gx_f c26 h
                refine lv_iload hx hb dL_isShown_68 (lv_at hl 0 rfl) ?_
                refine lv_bipush (v := 120) hx hb dL_isShown_70 (by decide) ?_
                refine lv_icmp_gt (tgt := 109) hx hb dL_isShown_72 (by decide) (fun c27 => ?_) (fun c27 => ?_)
                · replace h := gx_t c27 h
                  exact hj109_24 u8 _ _ _ h hP hD hS (lv_sub hl [1, 2, 4] rfl)
                · replace h := gx_f c27 h
                  refine lv_iload hx hb dL_isShown_75 (lv_at hl 0 rfl) ?_
                  refine lv_bipush (v := 20) hx hb dL_isShown_77 (by decide) ?_
                  refine lv_irem hx hb dL_isShown_79 (by decide) ?_
                  refine lv_if_ne (tgt := 109) hx hb dL_isShown_80 (by decide) (fun c28 => ?_) (fun c28 => ?_)
                  · replace h := gx_f c28 h
                    exact hj109_24 u8 _ _ _ h hP hD hS (lv_sub hl [1, 2, 4] rfl)
                  · replace h := gx_t c28 h
                    refine lv_iload_n hx hb dL_isShown_83 rfl (lv_at hl 4 rfl) ?_
                    refine lv_bipush (v := 11) hx hb dL_isShown_84 (by decide) ?_
                    obtain ⟨j105_29, ej105_29, h⟩ := gx_let h
                    have hj105_29 : ∀ (w105 : GS) (H : Heap) (locs : List Loc) (ls : Array Slot), j105_29 w105 = some (.inl r, w') → va_P D vwCl (wC cI cZ ad w105) H → va_D A (wC cI cZ ad w105) → va_S A s.heap H locs → lv_has ls 6 [(0, .ref (ad 0)), (1, .int p0), (3, .int x3_31)] → W p l e rL_isShown s m ([.ref (ad 0), .int p0] : List Value).toArray below meth c H locs 0 0 Q (F0 m 105 ls []) := by
                      intro w105 H locs ls h hP hD hS hl
                      subst ej105_29
                      refine lv_iconst (v := 1) hx hb dL_isShown_105 (by decide) ?_
                      refine lv_goto (tgt := 110) hx hb dL_isShown_106 (by decide) ?_
                      exact hj110_10 (1 : Int32) w105 _ _ _ h hP hD hS (lv_sub hl [0, 1, 2] rfl)
                    refine lv_icmp_eq (tgt := 105) hx hb dL_isShown_86 (by decide) (fun c30 => ?_) (fun c30 => ?_)
                    · replace h := gx_t c30 h
                      exact hj105_29 u8 _ _ _ h hP hD hS (lv_sub hl [1, 2, 4] rfl)
                    · replace h := gx_f c30 h
                      refine lv_iload hx hb dL_isShown_89 (lv_at hl 0 rfl) ?_
                      refine lv_aload_n hx hb dL_isShown_91 rfl (lv_at hl 1 rfl) ?_
                      refine lv_iload_n hx hb dL_isShown_92 rfl (lv_at hl 4 rfl) ?_
                      refine lv_iconst (v := 1) hx hb dL_isShown_93 (by decide) ?_
                      refine lv_iadd hx hb dL_isShown_94 ?_
                      refine lv_iconst (v := 3) hx hb dL_isShown_95 (by decide) ?_
                      obtain ⟨y31, u32, hc33, h⟩ := gx_xr h
                      refine cc_iV (As := [.int (x3_31 + (1 : Int32)), .int (3 : Int32)]) (rest := [.int y4]) ⟨hx, hb, hml, hown, hts⟩ (k_X9_section l D cI cZ ad u8 (x3_31 + (1 : Int32)) (3 : Int32) hc33) (cwV 2 hts (gwV mw_625 mw_626 mw_627 mw_19 mw_628) rfl rfl rfl (by decide +kernel) ⟨Nat.le_of_ble_eq_true rfl, Nat.le_of_ble_eq_true rfl⟩) hK hP hD hS hA hZ (ci := 9) (q0 := 0) rfl rfl rfl hl.1 rfl (Nat.le_of_ble_eq_true rfl) dL_isShown_96 ⟨Nat.zero_le _, Nat.zero_le _⟩ (fun H locs hP hD hS => ?_)
                      refine lv_bipush (v := 20) hx hb dL_isShown_99 (by decide) ?_
                      refine lv_iadd hx hb dL_isShown_101 ?_
                      refine lv_icmp_gt (tgt := 109) hx hb dL_isShown_102 (by decide) (fun c34 => ?_) (fun c34 => ?_)
                      · replace h := gx_t c34 h
                        exact hj109_24 u32 _ _ _ h hP hD hS (lv_sub hl [1, 2, 4] rfl)
                      · replace h := gx_f c34 h
                        exact hj105_29 u32 _ _ _ h hP hD hS (lv_sub hl [1, 2, 4] rfl)
    refine hL31 _ (fun x2_31 w31 H locs ls h hP hD hS hl => ?_) FU z0_28 (0 : Int32) w28 _ _ _ h hP hD hS (lv_sub hl [2, 3, 1, 0] rfl)
    refine lv_iload_n hx hb dL_isShown_162 rfl (lv_at hl 0 rfl) ?_
    obtain ⟨bo, h⟩ := gx_bo h
    cases h
    exact cc_ret hx hb hr bo hQ hK hP hD hS rfl dL_isShown_163 hlocks
  obtain ⟨j23_35, ej23_35, h⟩ := gx_let h
  have hj23_35 : ∀ (w23 : GS) (H : Heap) (locs : List Loc) (ls : Array Slot), j23_35 w23 = some (.inl r, w') → va_P D vwCl (wC cI cZ ad w23) H → va_D A (wC cI cZ ad w23) → va_S A s.heap H locs → lv_has ls 6 [(0, .ref (ad 0)), (1, .int p0)] → W p l e rL_isShown s m ([.ref (ad 0), .int p0] : List Value).toArray below meth c H locs 0 0 Q (F0 m 23 ls []) := by
    intro w23 H locs ls h hP hD hS hl
    subst ej23_35
    refine lv_iconst (v := 1) hx hb dL_isShown_23 (by decide) ?_
    refine lv_goto (tgt := 28) hx hb dL_isShown_24 (by decide) ?_
    exact hj28_1 (1 : Int32) w23 _ _ _ h hP hD hS (lv_sub hl [0, 1] rfl)
  refine lv_icmp_lt (tgt := 23) hx hb dL_isShown_3 (by decide) (fun c36 => ?_) (fun c36 => ?_)
  · replace h := gx_t c36 h
    exact hj23_35 u _ _ _ h hP hD hS (lv_sub hl [0, 1] rfl)
  · replace h := gx_f c36 h
    refine lv_aload_n hx hb dL_isShown_6 rfl (lv_at hl 0 rfl) ?_
    refine lv_iload_n hx hb dL_isShown_7 rfl (lv_at hl 1 rfl) ?_
    refine lv_bipush (v := 60) hx hb dL_isShown_8 (by decide) ?_
    refine lv_isub hx hb dL_isShown_10 ?_
    refine lv_iconst (v := 0) hx hb dL_isShown_11 (by decide) ?_
    refine lv_iconst (v := 0) hx hb dL_isShown_12 (by decide) ?_
    refine lv_iconst (v := 5) hx hb dL_isShown_13 (by decide) ?_
    cases h

def rL_isRoad : Room := { frames := 6, cells := 0, slots := 0, locals := 134 }
set_option maxHeartbeats 4000000 in
set_option maxRecDepth 100000 in
theorem k_L_isRoad (l : Launch) (D : va_G) (cI cZ : ClassId) (ad : Nat → Nat) (u : GS) {r : Int32} {w' : GS} (h : g_L_isRoad u = some (.inl r, w')) : MI l yL_isRoad (wm yL_isRoad cL_isRoad 7 (some .boolean)) rL_isRoad D [(cI, .int), (cZ, .boolean)] (wC cI cZ ad u) (wC cI cZ ad w') [.ref (ad 0)] r := by
  intro sz
  refine Met.ofW (cc := cL_isRoad) (maxL := 7) (ret := (some .boolean)) (by decide) rfl ?_
  intro p e s m args below meth c s₁ B hml hv
  obtain ⟨rfl, hsz, hP, hK, hD0, hZ⟩ := hv
  have hx := B.exec
  have hb := B.bytes
  have hr := B.returns
  have hts : ∀ w ∈ Wall, w.before _ s = true := fun w hw => atoms_spec (ws := wm yL_isRoad cL_isRoad 7 (some .boolean)) B.pre w (List.mem_cons_of_mem _ hw)
  have hown : s.vm.findClass RL = some m.cls := findClass_of_methodNamed B.named
  have hlocks := B.notSynchronized
  subst hsz
  have hD := hD0.self (sz := s.heap.size)
  generalize hAe : va_A (wC cI cZ ad u) s.heap.size = A at hD hZ ⊢
  have hA : ∀ q : Nat, s.heap.size ≤ q → A q := fun q h => by rw [← hAe]; exact Or.inr h
  have hS : va_S A s.heap s.heap [] := va_S.rf
  have hl := lv_entry ([.ref (ad 0)]) (n := 7) (Nat.le_of_ble_eq_true rfl)
  rw [lg_entry_eq]
  generalize (lg_sl ([.ref (ad 0)]) ++ List.replicate (7 - (lg_sl ([.ref (ad 0)])).length) Slot.unset).toArray = ls at hl ⊢
  replace hl : lv_has ls 7 [(0, .ref (ad 0))] := hl
  refine w_gen (fun Q hQ => ?_)
  refine lv_iconst (v := 0) hx hb dL_isRoad_0 (by decide) ?_
  refine lv_istore_n (lv' := [(1, .int (0 : Int32)), (0, .ref (ad 0))]) hx hb dL_isRoad_1 rfl hl (by decide) rfl (fun ls hl => ?_)
  refine lv_aload_n hx hb dL_isRoad_2 rfl (lv_at hl 1 rfl) ?_
  obtain ⟨y1, hc2, h⟩ := gx_bind h
  refine cc_iV (As := []) (rest := []) ⟨hx, hb, hml, hown, hts⟩ (k_X9_isLawful l D cI cZ ad u hc2) (cwV 0 hts (gwV mw_392 mw_393 mw_394 mw_19 mw_395) rfl rfl rfl (by decide +kernel) ⟨Nat.le_of_ble_eq_true rfl, Nat.le_of_ble_eq_true rfl⟩) hK hP hD hS hA hZ (ci := 9) (q0 := 0) rfl rfl rfl hl.1 rfl (Nat.le_of_ble_eq_true rfl) dL_isRoad_3 ⟨Nat.zero_le _, Nat.zero_le _⟩ (fun H locs hP hD hS => ?_)
  obtain ⟨v3, ev3, h⟩ := gx_let h
  refine lv_topn ev3 ?_
  refine lv_istore_n (lv' := [(2, .int v3), (1, .int (0 : Int32)), (0, .ref (ad 0))]) hx hb dL_isRoad_6 rfl hl (by decide) rfl (fun ls hl => ?_)
  refine lv_iconst (v := 0) hx hb dL_isRoad_7 (by decide) ?_
  refine lv_istore_n (lv' := [(3, .int (0 : Int32)), (2, .int v3), (1, .int (0 : Int32)), (0, .ref (ad 0))]) hx hb dL_isRoad_8 rfl hl (by decide) rfl (fun ls hl => ?_)
  have hL9 : ∀ (k : Int32 → Int32 → GS → Option (g_X × GS)) (hk : ∀ (x1_9 : Int32) (x2_9 : Int32) (w9 : GS) (H : Heap) (locs : List Loc) (ls : Array Slot), k x1_9 x2_9 w9 = some (.inl r, w') → va_P D vwCl (wC cI cZ ad w9) H → va_D A (wC cI cZ ad w9) → va_S A s.heap H locs → lv_has ls 7 [(0, .ref (ad 0)), (1, .int x1_9), (2, .int x2_9)] → W p l e rL_isRoad s m ([.ref (ad 0)] : List Value).toArray below meth c H locs 0 0 Q (F0 m 153 ls [])) (n : Nat) (x1_9 : Int32) (x2_9 : Int32) (x3_9 : Int32) (w9 : GS) (H : Heap) (locs : List Loc) (ls : Array Slot), lp_L_isRoad_9 k n x1_9 x2_9 x3_9 w9 = some (.inl r, w') → va_P D vwCl (wC cI cZ ad w9) H → va_D A (wC cI cZ ad w9) → va_S A s.heap H locs → lv_has ls 7 [(0, .ref (ad 0)), (1, .int x1_9), (2, .int x2_9), (3, .int x3_9)] → W p l e rL_isRoad s m ([.ref (ad 0)] : List Value).toArray below meth c H locs 0 0 Q (F0 m 9 ls []) := by
    intro k hk n
    induction n with
    | zero =>
      intro x1_9 x2_9 x3_9 w9 H locs ls h
      rw [lp_L_isRoad_9] at h
      cases h
    | succ n ih =>
      intro x1_9 x2_9 x3_9 w9 H locs ls h hP hD hS hl
      rw [lp_L_isRoad_9] at h
      refine lv_iload_n hx hb dL_isRoad_9 rfl (lv_at hl 3 rfl) ?_
      refine lv_bipush (v := 12) hx hb dL_isRoad_10 (by decide) ?_
      refine lv_icmp_ge (tgt := 153) hx hb dL_isRoad_12 (by decide) (fun c4 => ?_) (fun c4 => ?_)
      · replace h := gx_t c4 h
        exact hk x1_9 x2_9 w9 _ _ _ h hP hD hS (lv_sub hl [0, 1, 2] rfl)
      · replace h := gx_f c4 h
        refine lv_iload_n hx hb dL_isRoad_15 rfl (lv_at hl 2 rfl) ?_
        refine lv_if_eq (tgt := 153) hx hb dL_isRoad_16 (by decide) (fun c5 => ?_) (fun c5 => ?_)
        · replace h := gx_t c5 h
          exact hk x1_9 x2_9 w9 _ _ _ h hP hD hS (lv_sub hl [0, 1, 2] rfl)
        · replace h := gx_f c5 h
          refine lv_iconst (v := 0) hx hb dL_isRoad_19 (by decide) ?_
          refine lv_istore (lv' := [(4, .int (0 : Int32)), (0, .ref (ad 0)), (1, .int x1_9), (2, .int x2_9), (3, .int x3_9)]) hx hb dL_isRoad_20 hl (by decide) rfl (fun ls hl => ?_)
          refine lv_iconst (v := 0) hx hb dL_isRoad_22 (by decide) ?_
          refine lv_istore (lv' := [(5, .int (0 : Int32)), (4, .int (0 : Int32)), (0, .ref (ad 0)), (1, .int x1_9), (2, .int x2_9), (3, .int x3_9)]) hx hb dL_isRoad_23 hl (by decide) rfl (fun ls hl => ?_)
          have hL25 : ∀ (k : Int32 → Int32 → GS → Option (g_X × GS)) (hk : ∀ (x1_25 : Int32) (x4_25 : Int32) (w25 : GS) (H : Heap) (locs : List Loc) (ls : Array Slot), k x1_25 x4_25 w25 = some (.inl r, w') → va_P D vwCl (wC cI cZ ad w25) H → va_D A (wC cI cZ ad w25) → va_S A s.heap H locs → lv_has ls 7 [(0, .ref (ad 0)), (1, .int x1_25), (3, .int x3_9), (4, .int x4_25)] → W p l e rL_isRoad s m ([.ref (ad 0)] : List Value).toArray below meth c H locs 0 0 Q (F0 m 67 ls [])) (n : Nat) (x1_25 : Int32) (x4_25 : Int32) (x5_25 : Int32) (w25 : GS) (H : Heap) (locs : List Loc) (ls : Array Slot), lp_L_isRoad_25 x3_9 k n x1_25 x4_25 x5_25 w25 = some (.inl r, w') → va_P D vwCl (wC cI cZ ad w25) H → va_D A (wC cI cZ ad w25) → va_S A s.heap H locs → lv_has ls 7 [(0, .ref (ad 0)), (1, .int x1_25), (3, .int x3_9), (4, .int x4_25), (5, .int x5_25)] → W p l e rL_isRoad s m ([.ref (ad 0)] : List Value).toArray below meth c H locs 0 0 Q (F0 m 25 ls []) := by
            intro k hk n
            induction n with
            | zero =>
              intro x1_25 x4_25 x5_25 w25 H locs ls h
              rw [lp_L_isRoad_25] at h
              cases h
            | succ n ih =>
              intro x1_25 x4_25 x5_25 w25 H locs ls h hP hD hS hl
              rw [lp_L_isRoad_25] at h
              refine lv_iload hx hb dL_isRoad_25 (lv_at hl 4 rfl) ?_
              refine lv_iconst (v := 4) hx hb dL_isRoad_27 (by decide) ?_
              refine lv_icmp_ge (tgt := 67) hx hb dL_isRoad_28 (by decide) (fun c6 => ?_) (fun c6 => ?_)
              · replace h := gx_t c6 h
                exact hk x1_25 x4_25 w25 _ _ _ h hP hD hS (lv_sub hl [0, 1, 2, 3] rfl)
              · replace h := gx_f c6 h
                refine lv_aload_n hx hb dL_isRoad_31 rfl (lv_at hl 0 rfl) ?_
                refine lv_iload_n hx hb dL_isRoad_32 rfl (lv_at hl 2 rfl) ?_
                refine lv_iload hx hb dL_isRoad_33 (lv_at hl 4 rfl) ?_
                obtain ⟨y7, u8, hc9, h⟩ := gx_xr h
                refine cc_iV (As := [.int x3_9, .int x5_25]) (rest := []) ⟨hx, hb, hml, hown, hts⟩ (k_X9_holds l D cI cZ ad w25 x3_9 x5_25 hc9) (cwV 2 hts (gwV mw_590 mw_591 mw_592 mw_19 mw_593) rfl rfl rfl (by decide +kernel) ⟨Nat.le_of_ble_eq_true rfl, Nat.le_of_ble_eq_true rfl⟩) hK hP hD hS hA hZ (ci := 9) (q0 := 0) rfl rfl rfl hl.1 rfl (Nat.le_of_ble_eq_true rfl) dL_isRoad_35 ⟨Nat.zero_le _, Nat.zero_le _⟩ (fun H locs hP hD hS => ?_)
                refine lv_istore (lv' := [(6, .int y7), (0, .ref (ad 0)), (1, .int x1_25), (3, .int x3_9), (4, .int x4_25), (5, .int x5_25)]) hx hb dL_isRoad_38 hl (by decide) rfl (fun ls hl => ?_)
                refine lv_iload_n hx hb dL_isRoad_40 rfl (lv_at hl 2 rfl) ?_
                refine lv_iload hx hb dL_isRoad_41 (lv_at hl 0 rfl) ?_
                refine lv_iadd hx hb dL_isRoad_43 ?_
                obtain ⟨v10, ev10, h⟩ := gx_let h
                refine lv_topn ev10 ?_
                refine lv_istore_n (lv' := [(1, .int v10), (6, .int y7), (0, .ref (ad 0)), (3, .int x3_9), (4, .int x4_25), (5, .int x5_25)]) hx hb dL_isRoad_44 rfl hl (by decide) rfl (fun ls hl => ?_)
                refine lv_iload hx hb dL_isRoad_45 (lv_at hl 1 rfl) ?_
                refine lv_iload hx hb dL_isRoad_47 (lv_at hl 4 rfl) ?_
                obtain ⟨j59_11, ej59_11, h⟩ := gx_let h
                have hj59_11 : ∀ (z0_59 : Int32) (H : Heap) (locs : List Loc) (ls : Array Slot), j59_11 z0_59 = some (.inl r, w') → va_P D vwCl (wC cI cZ ad u8) H → va_D A (wC cI cZ ad u8) → va_S A s.heap H locs → lv_has ls 7 [(0, .ref (ad 0)), (1, .int v10), (3, .int x3_9), (5, .int x5_25)] → W p l e rL_isRoad s m ([.ref (ad 0)] : List Value).toArray below meth c H locs 0 0 Q (F0 m 59 ls [.int z0_59]) := by
                  intro z0_59 H locs ls h hP hD hS hl
                  subst ej59_11
                  refine lv_istore (lv' := [(4, .int z0_59), (0, .ref (ad 0)), (1, .int v10), (3, .int x3_9), (5, .int x5_25)]) hx hb dL_isRoad_59 hl (by decide) rfl (fun ls hl => ?_)
                  obtain ⟨v12, ev12, h⟩ := gx_let h
                  refine lv_iinc (v := v12) (lv' := [(5, .int v12), (4, .int z0_59), (0, .ref (ad 0)), (1, .int v10), (3, .int x3_9)]) hx hb dL_isRoad_61 hl (k := 4) rfl (by rw [← ev12]; rfl) (by decide) rfl (fun ls hl => ?_)
                  refine lv_goto (tgt := 25) hx hb dL_isRoad_64 (by decide) ?_
                  exact ih v10 z0_59 v12 u8 _ _ _ h hP hD hS (lv_sub hl [2, 3, 4, 1, 0] rfl)
                refine lv_icmp_le (tgt := 57) hx hb dL_isRoad_49 (by decide) (fun c13 => ?_) (fun c13 => ?_)
                · replace h := gx_t c13 h
                  refine lv_iload hx hb dL_isRoad_57 (lv_at hl 4 rfl) ?_
                  exact hj59_11 x4_25 _ _ _ h hP hD hS (lv_sub hl [2, 0, 3, 5] rfl)
                · replace h := gx_f c13 h
                  refine lv_iload hx hb dL_isRoad_52 (lv_at hl 1 rfl) ?_
                  refine lv_goto (tgt := 59) hx hb dL_isRoad_54 (by decide) ?_
                  exact hj59_11 y7 _ _ _ h hP hD hS (lv_sub hl [2, 0, 3, 5] rfl)
          refine hL25 _ (fun x1_25 x4_25 w25 H locs ls h hP hD hS hl => ?_) FU x1_9 (0 : Int32) (0 : Int32) w9 _ _ _ h hP hD hS (lv_sub hl [2, 3, 5, 1, 0] rfl)
          refine lv_iload hx hb dL_isRoad_67 (lv_at hl 3 rfl) ?_
          refine lv_bipush (v := 20) hx hb dL_isRoad_69 (by decide) ?_
          obtain ⟨j146_14, ej146_14, h⟩ := gx_let h
          have hj146_14 : ∀ (z0_146 : Int32) (w146 : GS) (H : Heap) (locs : List Loc) (ls : Array Slot), j146_14 z0_146 w146 = some (.inl r, w') → va_P D vwCl (wC cI cZ ad w146) H → va_D A (wC cI cZ ad w146) → va_S A s.heap H locs → lv_has ls 7 [(0, .ref (ad 0)), (1, .int x1_25), (3, .int x3_9)] → W p l e rL_isRoad s m ([.ref (ad 0)] : List Value).toArray below meth c H locs 0 0 Q (F0 m 146 ls [.int z0_146]) := by
            intro z0_146 w146 H locs ls h hP hD hS hl
            subst ej146_14
            refine lv_istore_n (lv' := [(2, .int z0_146), (0, .ref (ad 0)), (1, .int x1_25), (3, .int x3_9)]) hx hb dL_isRoad_146 rfl hl (by decide) rfl (fun ls hl => ?_)
            obtain ⟨v15, ev15, h⟩ := gx_let h
            refine lv_iinc (v := v15) (lv' := [(3, .int v15), (2, .int z0_146), (0, .ref (ad 0)), (1, .int x1_25)]) hx hb dL_isRoad_147 hl (k := 3) rfl (by rw [← ev15]; rfl) (by decide) rfl (fun ls hl => ?_)
            refine lv_goto (tgt := 9) hx hb dL_isRoad_150 (by decide) ?_
            exact ih x1_25 z0_146 v15 w146 _ _ _ h hP hD hS (lv_sub hl [2, 3, 1, 0] rfl)
          obtain ⟨j145_16, ej145_16, h⟩ := gx_let h
          have hj145_16 : ∀ (w145 : GS) (H : Heap) (locs : List Loc) (ls : Array Slot), j145_16 w145 = some (.inl r, w') → va_P D vwCl (wC cI cZ ad w145) H → va_D A (wC cI cZ ad w145) → va_S A s.heap H locs → lv_has ls 7 [(0, .ref (ad 0)), (1, .int x1_25), (3, .int x3_9)] → W p l e rL_isRoad s m ([.ref (ad 0)] : List Value).toArray below meth c H locs 0 0 Q (F0 m 145 ls []) := by
            intro w145 H locs ls h hP hD hS hl
            subst ej145_16
            refine lv_iconst (v := 0) hx hb dL_isRoad_145 (by decide) ?_
            exact hj146_14 (0 : Int32) w145 _ _ _ h hP hD hS (lv_sub hl [0, 1, 2] rfl)
          refine lv_icmp_gt (tgt := 145) hx hb dL_isRoad_71 (by decide) (fun c17 => ?_) (fun c17 => ?_)
          · replace h := gx_t c17 h
            exact hj145_16 w25 _ _ _ h hP hD hS (lv_sub hl [0, 1, 2] rfl)
          · replace h := gx_f c17 h
            refine lv_aload_n hx hb dL_isRoad_74 rfl (lv_at hl 0 rfl) ?_
            refine lv_iload_n hx hb dL_isRoad_75 rfl (lv_at hl 2 rfl) ?_
            refine lv_iconst (v := 0) hx hb dL_isRoad_76 (by decide) ?_
            obtain ⟨y18, u19, hc20, h⟩ := gx_xr h
            refine cc_iV (As := [.int x3_9, .int (0 : Int32)]) (rest := []) ⟨hx, hb, hml, hown, hts⟩ (k_X9_section l D cI cZ ad w25 x3_9 (0 : Int32) hc20) (cwV 2 hts (gwV mw_625 mw_626 mw_627 mw_19 mw_628) rfl rfl rfl (by decide +kernel) ⟨Nat.le_of_ble_eq_true rfl, Nat.le_of_ble_eq_true rfl⟩) hK hP hD hS hA hZ (ci := 9) (q0 := 0) rfl rfl rfl hl.1 rfl (Nat.le_of_ble_eq_true rfl) dL_isRoad_77 ⟨Nat.zero_le _, Nat.zero_le _⟩ (fun H locs hP hD hS => ?_)
            refine lv_bipush (v := 120) hx hb dL_isRoad_80 (by decide) ?_
            refine lv_iconst (v := 5) hx hb dL_isRoad_82 (by decide) ?_
            refine lv_iload hx hb dL_isRoad_83 (lv_at hl 3 rfl) ?_
            refine lv_imul hx hb dL_isRoad_85 ?_
            refine lv_isub hx hb dL_isRoad_86 ?_
            refine lv_icmp_ne (tgt := 145) hx hb dL_isRoad_87 (by decide) (fun c21 => ?_) (fun c21 => ?_)
            · replace h := gx_f c21 h
              exact hj145_16 u19 _ _ _ h hP hD hS (lv_sub hl [0, 1, 2] rfl)
            · replace h := gx_t c21 h
              refine lv_aload_n hx hb dL_isRoad_90 rfl (lv_at hl 0 rfl) ?_
              refine lv_iload_n hx hb dL_isRoad_91 rfl (lv_at hl 2 rfl) ?_
              refine lv_iconst (v := 4) hx hb dL_isRoad_92 (by decide) ?_
              obtain ⟨y22, u23, hc24, h⟩ := gx_xr h
              refine cc_iV (As := [.int x3_9, .int (4 : Int32)]) (rest := []) ⟨hx, hb, hml, hown, hts⟩ (k_X9_section l D cI cZ ad u19 x3_9 (4 : Int32) hc24) (cwV 2 hts (gwV mw_625 mw_626 mw_627 mw_19 mw_628) rfl rfl rfl (by decide +kernel) ⟨Nat.le_of_ble_eq_true rfl, Nat.le_of_ble_eq_true rfl⟩) hK hP hD hS hA hZ (ci := 9) (q0 := 0) rfl rfl rfl hl.1 rfl (Nat.le_of_ble_eq_true rfl) dL_isRoad_93 ⟨Nat.zero_le _, Nat.zero_le _⟩ (fun H locs hP hD hS => ?_)
              refine lv_if_lt (tgt := 145) hx hb dL_isRoad_96 (by decide) (fun c25 => ?_) (fun c25 => ?_)
              · replace h := gx_t c25 h
                exact hj145_16 u23 _ _ _ h hP hD hS (lv_sub hl [0, 1, 2] rfl)
              · replace h := gx_f c25 h
                refine lv_aload_n hx hb dL_isRoad_99 rfl (lv_at hl 0 rfl) ?_
                refine lv_iload_n hx hb dL_isRoad_100 rfl (lv_at hl 2 rfl) ?_
                refine lv_iconst (v := 1) hx hb dL_isRoad_101 (by decide) ?_
                obtain ⟨y26, u27, hc28, h⟩ := gx_xr h
                refine cc_iV (As := [.int x3_9, .int (1 : Int32)]) (rest := []) ⟨hx, hb, hml, hown, hts⟩ (k_X9_section l D cI cZ ad u23 x3_9 (1 : Int32) hc28) (cwV 2 hts (gwV mw_625 mw_626 mw_627 mw_19 mw_628) rfl rfl rfl (by decide +kernel) ⟨Nat.le_of_ble_eq_true rfl, Nat.le_of_ble_eq_true rfl⟩) hK hP hD hS hA hZ (ci := 9) (q0 := 0) rfl rfl rfl hl.1 rfl (Nat.le_of_ble_eq_true rfl) dL_isRoad_102 ⟨Nat.zero_le _, Nat.zero_le _⟩ (fun H locs hP hD hS => ?_)
                refine lv_iconst (v := (-1)) hx hb dL_isRoad_105 (by decide) ?_
                refine lv_icmp_lt (tgt := 145) hx hb dL_isRoad_106 (by decide) (fun c29 => ?_) (fun c29 => ?_)
                · replace h := gx_t c29 h
                  exact hj145_16 u27 _ _ _ h hP hD hS (lv_sub hl [0, 1, 2] rfl)
                · replace h := gx_f c29 h
                  refine lv_aload_n hx hb dL_isRoad_109 rfl (lv_at hl 0 rfl) ?_
                  refine lv_iload_n hx hb dL_isRoad_110 rfl (lv_at hl 2 rfl) ?_
                  refine lv_iconst (v := 1) hx hb dL_isRoad_111 (by decide) ?_
                  obtain ⟨y30, u31, hc32, h⟩ := gx_xr h
                  refine cc_iV (As := [.int x3_9, .int (1 : Int32)]) (rest := []) ⟨hx, hb, hml, hown, hts⟩ (k_X9_section l D cI cZ ad u27 x3_9 (1 : Int32) hc32) (cwV 2 hts (gwV mw_625 mw_626 mw_627 mw_19 mw_628) rfl rfl rfl (by decide +kernel) ⟨Nat.le_of_ble_eq_true rfl, Nat.le_of_ble_eq_true rfl⟩) hK hP hD hS hA hZ (ci := 9) (q0 := 0) rfl rfl rfl hl.1 rfl (Nat.le_of_ble_eq_true rfl) dL_isRoad_112 ⟨Nat.zero_le _, Nat.zero_le _⟩ (fun H locs hP hD hS => ?_)
                  refine lv_bipush (v := 120) hx hb dL_isRoad_115 (by decide) ?_
                  refine lv_icmp_gt (tgt := 145) hx hb dL_isRoad_117 (by decide) (fun c33 => ?_) (fun c33 => ?_)
                  · replace h := gx_t c33 h
                    exact hj145_16 u31 _ _ _ h hP hD hS (lv_sub hl [0, 1, 2] rfl)
                  · replace h := gx_f c33 h
                    refine lv_aload_n hx hb dL_isRoad_120 rfl (lv_at hl 0 rfl) ?_
                    refine lv_iload_n hx hb dL_isRoad_121 rfl (lv_at hl 2 rfl) ?_
                    refine lv_iconst (v := 2) hx hb dL_isRoad_122 (by decide) ?_
                    obtain ⟨y34, u35, hc36, h⟩ := gx_xr h
                    refine cc_iV (As := [.int x3_9, .int (2 : Int32)]) (rest := []) ⟨hx, hb, hml, hown, hts⟩ (k_X9_section l D cI cZ ad u31 x3_9 (2 : Int32) hc36) (cwV 2 hts (gwV mw_625 mw_626 mw_627 mw_19 mw_628) rfl rfl rfl (by decide +kernel) ⟨Nat.le_of_ble_eq_true rfl, Nat.le_of_ble_eq_true rfl⟩) hK hP hD hS hA hZ (ci := 9) (q0 := 0) rfl rfl rfl hl.1 rfl (Nat.le_of_ble_eq_true rfl) dL_isRoad_123 ⟨Nat.zero_le _, Nat.zero_le _⟩ (fun H locs hP hD hS => ?_)
                    refine lv_iconst (v := (-1)) hx hb dL_isRoad_126 (by decide) ?_
                    refine lv_icmp_lt (tgt := 145) hx hb dL_isRoad_127 (by decide) (fun c37 => ?_) (fun c37 => ?_)
                    · replace h := gx_t c37 h
                      exact hj145_16 u35 _ _ _ h hP hD hS (lv_sub hl [0, 1, 2] rfl)
                    · replace h := gx_f c37 h
                      refine lv_aload_n hx hb dL_isRoad_130 rfl (lv_at hl 0 rfl) ?_
                      refine lv_iload_n hx hb dL_isRoad_131 rfl (lv_at hl 2 rfl) ?_
                      refine lv_iconst (v := 2) hx hb dL_isRoad_132 (by decide) ?_
                      obtain ⟨y38, u39, hc40, h⟩ := gx_xr h
                      refine cc_iV (As := [.int x3_9, .int (2 : Int32)]) (rest := []) ⟨hx, hb, hml, hown, hts⟩ (k_X9_section l D cI cZ ad u35 x3_9 (2 : Int32) hc40) (cwV 2 hts (gwV mw_625 mw_626 mw_627 mw_19 mw_628) rfl rfl rfl (by decide +kernel) ⟨Nat.le_of_ble_eq_true rfl, Nat.le_of_ble_eq_true rfl⟩) hK hP hD hS hA hZ (ci := 9) (q0 := 0) rfl rfl rfl hl.1 rfl (Nat.le_of_ble_eq_true rfl) dL_isRoad_133 ⟨Nat.zero_le _, Nat.zero_le _⟩ (fun H locs hP hD hS => ?_)
                      refine lv_bipush (v := 120) hx hb dL_isRoad_136 (by decide) ?_
                      refine lv_icmp_gt (tgt := 145) hx hb dL_isRoad_138 (by decide) (fun c41 => ?_) (fun c41 => ?_)
                      · replace h := gx_t c41 h
                        exact hj145_16 u39 _ _ _ h hP hD hS (lv_sub hl [0, 1, 2] rfl)
                      · replace h := gx_f c41 h
                        refine lv_iconst (v := 1) hx hb dL_isRoad_141 (by decide) ?_
                        refine lv_goto (tgt := 146) hx hb dL_isRoad_142 (by decide) ?_
                        exact hj146_14 (1 : Int32) u39 _ _ _ h hP hD hS (lv_sub hl [0, 1, 2] rfl)
  refine hL9 _ (fun x1_9 x2_9 w9 H locs ls h hP hD hS hl => ?_) FU (0 : Int32) v3 (0 : Int32) y1.2 _ _ _ h hP hD hS (lv_sub hl [3, 2, 1, 0] rfl)
  refine lv_iload_n hx hb dL_isRoad_153 rfl (lv_at hl 2 rfl) ?_
  refine lv_if_eq (tgt := 170) hx hb dL_isRoad_154 (by decide) (fun c42 => ?_) (fun c42 => ?_)
  · replace h := gx_t c42 h
    refine lv_iconst (v := 0) hx hb dL_isRoad_170 (by decide) ?_
    cases h
    exact cc_ret hx hb hr rfl hQ hK hP hD hS rfl dL_isRoad_171 hlocks
  · replace h := gx_f c42 h
    refine lv_iload_n hx hb dL_isRoad_157 rfl (lv_at hl 1 rfl) ?_
    refine lv_aload_n hx hb dL_isRoad_158 rfl (lv_at hl 0 rfl) ?_
    refine lv_iconst (v := 1) hx hb dL_isRoad_159 (by decide) ?_
    obtain ⟨y43, u44, hc45, h⟩ := gx_xr h
    refine cc_iV (As := [.int (1 : Int32)]) (rest := [.int x1_9]) ⟨hx, hb, hml, hown, hts⟩ (k_X9_vehicles l D cI cZ ad w9 (1 : Int32) hc45) (cwV 1 hts (gwV mw_689 mw_690 mw_691 mw_19 mw_692) rfl rfl rfl (by decide +kernel) ⟨Nat.le_of_ble_eq_true rfl, Nat.le_of_ble_eq_true rfl⟩) hK hP hD hS hA hZ (ci := 9) (q0 := 0) rfl rfl rfl hl.1 rfl (Nat.le_of_ble_eq_true rfl) dL_isRoad_160 ⟨Nat.zero_le _, Nat.zero_le _⟩ (fun H locs hP hD hS => ?_)
    refine lv_icmp_ne (tgt := 170) hx hb dL_isRoad_163 (by decide) (fun c46 => ?_) (fun c46 => ?_)
    · replace h := gx_f c46 h
      refine lv_iconst (v := 0) hx hb dL_isRoad_170 (by decide) ?_
      cases h
      exact cc_ret hx hb hr rfl hQ hK hP hD hS rfl dL_isRoad_171 hlocks
    · replace h := gx_t c46 h
      refine lv_iconst (v := 1) hx hb dL_isRoad_166 (by decide) ?_
      refine lv_goto (tgt := 171) hx hb dL_isRoad_167 (by decide) ?_
      cases h
      exact cc_ret hx hb hr rfl hQ hK hP hD hS rfl dL_isRoad_171 hlocks
