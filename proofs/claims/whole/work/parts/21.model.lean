def rX10_setsSpeeds : Room := { frames := 5, cells := 0, slots := 0, locals := 116 }
set_option maxHeartbeats 4000000 in
set_option maxRecDepth 100000 in
theorem k_X10_setsSpeeds (l : Launch) (D : va_G) (cI cZ : ClassId) (ad : Nat → Nat) (u : MS) {w' : MS} (h : g_X10_setsSpeeds u = some w') : MV l yX10_setsSpeeds (wm yX10_setsSpeeds cX10_setsSpeeds 7 none) rX10_setsSpeeds D [(cI, .int), (cZ, .boolean)] (wM cI cZ ad u) (wM cI cZ ad w') [.ref (ad 0)] := by
  intro sz
  refine Met.ofW (cc := cX10_setsSpeeds) (maxL := 7) (ret := none) (by decide) rfl ?_
  intro p e s m args below meth c s₁ B hml hv
  obtain ⟨rfl, hsz, hP, hK, hD0, hZ⟩ := hv
  have hx := B.exec
  have hb := B.bytes
  have hr := B.returns
  have hts : ∀ w ∈ Wall, w.before _ s = true := fun w hw => atoms_spec (ws := wm yX10_setsSpeeds cX10_setsSpeeds 7 none) B.pre w (List.mem_cons_of_mem _ hw)
  have hown : s.vm.findClass RX10 = some m.cls := findClass_of_methodNamed B.named
  have hlocks := B.notSynchronized
  subst hsz
  have hD := hD0.self (sz := s.heap.size)
  generalize hAe : va_A (wM cI cZ ad u) s.heap.size = A at hD hZ ⊢
  have hA : ∀ q : Nat, s.heap.size ≤ q → A q := fun q h => by rw [← hAe]; exact Or.inr h
  have hS : va_S A s.heap s.heap [] := va_S.rf
  have hf41 := hts _ mw_887
  have hf38 := hts _ mw_886
  have hf44 := hts _ mw_888
  have hf95 := hts _ mw_872
  have hl := lv_entry ([.ref (ad 0)]) (n := 7) (Nat.le_of_ble_eq_true rfl)
  rw [lg_entry_eq]
  generalize (lg_sl ([.ref (ad 0)]) ++ List.replicate (7 - (lg_sl ([.ref (ad 0)])).length) Slot.unset).toArray = ls at hl ⊢
  replace hl : lv_has ls 7 [(0, .ref (ad 0))] := hl
  refine w_gen (fun Q hQ => ?_)
  refine lv_bipush (v := 11) hx hb dX10_setsSpeeds_0 (by decide) ?_
  refine lv_istore_n (lv' := [(1, .int (11 : Int32)), (0, .ref (ad 0))]) hx hb dX10_setsSpeeds_2 rfl hl (by decide) rfl (fun ls hl => ?_)
  have hL3 : ∀ (k : MS → Option (MS)) (hk : ∀ (w3 : MS) (H : Heap) (locs : List Loc) (ls : Array Slot), k w3 = some w' → va_P D vwCl (wM cI cZ ad w3) H → va_D A (wM cI cZ ad w3) → va_S A s.heap H locs → lv_has ls 7 [] → W p l e rX10_setsSpeeds s m ([.ref (ad 0)] : List Value).toArray below meth c H locs 0 0 Q (F0 m 148 ls [])) (n : Nat) (x1_3 : Int32) (w3 : MS) (H : Heap) (locs : List Loc) (ls : Array Slot), lp_X10_setsSpeeds_3 k n x1_3 w3 = some w' → va_P D vwCl (wM cI cZ ad w3) H → va_D A (wM cI cZ ad w3) → va_S A s.heap H locs → lv_has ls 7 [(0, .ref (ad 0)), (1, .int x1_3)] → W p l e rX10_setsSpeeds s m ([.ref (ad 0)] : List Value).toArray below meth c H locs 0 0 Q (F0 m 3 ls []) := by
    intro k hk n
    induction n with
    | zero =>
      intro x1_3 w3 H locs ls h
      rw [lp_X10_setsSpeeds_3] at h
      cases h
    | succ n ih =>
      intro x1_3 w3 H locs ls h hP hD hS hl
      rw [lp_X10_setsSpeeds_3] at h
      refine lv_iload_n hx hb dX10_setsSpeeds_3 rfl (lv_at hl 1 rfl) ?_
      refine lv_if_lt (tgt := 148) hx hb dX10_setsSpeeds_4 (by decide) (fun c1 => ?_) (fun c1 => ?_)
      · replace h := gx_t c1 h
        exact hk w3 _ _ _ h hP hD hS (lv_sub hl [] rfl)
      · replace h := gx_f c1 h
        refine lv_aload_n hx hb dX10_setsSpeeds_7 rfl (lv_at hl 0 rfl) ?_
        refine va_get (D := D) (ci := 10) (v := .ref (ad 11)) (C := RX10) (T := TX10) (N := 32) hx hb hts iX10 hown hK hP 0 rfl rfl 16 (by decide) hf41 (fun _ h9 => h9) rfl dX10_setsSpeeds_8 ?_
        refine lv_iload_n hx hb dX10_setsSpeeds_11 rfl (lv_at hl 1 rfl) ?_
        obtain ⟨b2, h⟩ := gx_in h
        refine va_iald (D := D) hx hb hK hP 11 0 rfl rfl b2 dX10_setsSpeeds_12 ?_
        obtain ⟨v3, ev3, h⟩ := gx_let h
        refine lv_topn ev3 ?_
        refine lv_istore_n (lv' := [(2, .int v3), (0, .ref (ad 0)), (1, .int x1_3)]) hx hb dX10_setsSpeeds_13 rfl hl (by decide) rfl (fun ls hl => ?_)
        refine lv_aload_n hx hb dX10_setsSpeeds_14 rfl (lv_at hl 1 rfl) ?_
        refine lv_iload_n hx hb dX10_setsSpeeds_15 rfl (lv_at hl 2 rfl) ?_
        obtain ⟨y4, hc5, h⟩ := gx_bind h
        refine cc_iV (As := [.int x1_3]) (rest := []) ⟨hx, hb, hml, hown, hts⟩ (k_X10_wantOf l D cI cZ ad w3 x1_3 hc5) (cwV 1 hts (gwV mw_1016 mw_1018 mw_33 mw_59 mw_1019) rfl rfl rfl (by decide +kernel) ⟨Nat.le_of_ble_eq_true rfl, Nat.le_of_ble_eq_true rfl⟩) hK hP hD hS hA hZ (ci := 10) (q0 := 0) rfl rfl rfl hl.1 rfl (Nat.le_of_ble_eq_true rfl) dX10_setsSpeeds_16 ⟨Nat.zero_le _, Nat.zero_le _⟩ (fun H locs hP hD hS => ?_)
        refine lv_istore_n (lv' := [(3, .int y4), (2, .int v3), (0, .ref (ad 0)), (1, .int x1_3)]) hx hb dX10_setsSpeeds_19 rfl hl (by decide) rfl (fun ls hl => ?_)
        refine lv_aload_n hx hb dX10_setsSpeeds_20 rfl (lv_at hl 2 rfl) ?_
        refine va_get (D := D) (ci := 10) (v := .ref (ad 10)) (C := RX10) (T := TX10) (N := 32) hx hb hts iX10 hown hK hP 0 rfl rfl 15 (by decide) hf38 (fun _ h9 => h9) rfl dX10_setsSpeeds_21 ?_
        refine lv_iload_n hx hb dX10_setsSpeeds_24 rfl (lv_at hl 3 rfl) ?_
        obtain ⟨b6, h⟩ := gx_in h
        refine va_iald (D := D) hx hb hK hP 10 0 rfl rfl b6 dX10_setsSpeeds_25 ?_
        refine lv_iconst (v := (-1)) hx hb dX10_setsSpeeds_26 (by decide) ?_
        obtain ⟨j55_7, ej55_7, h⟩ := gx_let h
        have hj55_7 : ∀ (z0_55 : Int32) (H : Heap) (locs : List Loc) (ls : Array Slot), j55_7 z0_55 = some w' → va_P D vwCl (wM cI cZ ad w3) H → va_D A (wM cI cZ ad w3) → va_S A s.heap H locs → lv_has ls 7 [(0, .ref (ad 0)), (1, .int x1_3), (2, .int v3), (3, .int y4)] → W p l e rX10_setsSpeeds s m ([.ref (ad 0)] : List Value).toArray below meth c H locs 0 0 Q (F0 m 55 ls [.int z0_55]) := by
          intro z0_55 H locs ls h hP hD hS hl
          subst ej55_7
          refine lv_istore (lv' := [(4, .int z0_55), (0, .ref (ad 0)), (1, .int x1_3), (2, .int v3), (3, .int y4)]) hx hb dX10_setsSpeeds_55 hl (by decide) rfl (fun ls hl => ?_)
          refine lv_iload hx hb dX10_setsSpeeds_57 (lv_at hl 0 rfl) ?_
          obtain ⟨j67_8, ej67_8, h⟩ := gx_let h
          have hj67_8 : ∀ (z0_67 : Int32) (H : Heap) (locs : List Loc) (ls : Array Slot), j67_8 z0_67 = some w' → va_P D vwCl (wM cI cZ ad w3) H → va_D A (wM cI cZ ad w3) → va_S A s.heap H locs → lv_has ls 7 [(0, .ref (ad 0)), (1, .int x1_3), (2, .int v3)] → W p l e rX10_setsSpeeds s m ([.ref (ad 0)] : List Value).toArray below meth c H locs 0 0 Q (F0 m 67 ls [.int z0_67]) := by
            intro z0_67 H locs ls h hP hD hS hl
            subst ej67_8
            refine lv_istore (lv' := [(5, .int z0_67), (0, .ref (ad 0)), (1, .int x1_3), (2, .int v3)]) hx hb dX10_setsSpeeds_67 hl (by decide) rfl (fun ls hl => ?_)
            refine lv_iload_n hx hb dX10_setsSpeeds_69 rfl (lv_at hl 2 rfl) ?_
            refine lv_bipush (v := 11) hx hb dX10_setsSpeeds_70 (by decide) ?_
            obtain ⟨j91_9, ej91_9, h⟩ := gx_let h
            have hj91_9 : ∀ (z0_91 : Int32) (H : Heap) (locs : List Loc) (ls : Array Slot), j91_9 z0_91 = some w' → va_P D vwCl (wM cI cZ ad w3) H → va_D A (wM cI cZ ad w3) → va_S A s.heap H locs → lv_has ls 7 [(0, .ref (ad 0)), (1, .int x1_3), (2, .int v3), (5, .int z0_67)] → W p l e rX10_setsSpeeds s m ([.ref (ad 0)] : List Value).toArray below meth c H locs 0 0 Q (F0 m 91 ls [.int z0_91]) := by
              intro z0_91 H locs ls h hP hD hS hl
              subst ej91_9
              refine lv_istore (lv' := [(6, .int z0_91), (0, .ref (ad 0)), (1, .int x1_3), (2, .int v3), (5, .int z0_67)]) hx hb dX10_setsSpeeds_91 hl (by decide) rfl (fun ls hl => ?_)
              refine lv_aload_n hx hb dX10_setsSpeeds_93 rfl (lv_at hl 1 rfl) ?_
              refine va_get (D := D) (ci := 10) (v := .ref (ad 11)) (C := RX10) (T := TX10) (N := 32) hx hb hts iX10 hown hK hP 0 rfl rfl 16 (by decide) hf41 (fun _ h9 => h9) rfl dX10_setsSpeeds_94 ?_
              refine lv_iload_n hx hb dX10_setsSpeeds_97 rfl (lv_at hl 2 rfl) ?_
              refine lv_iload hx hb dX10_setsSpeeds_98 (lv_at hl 4 rfl) ?_
              refine lv_iload hx hb dX10_setsSpeeds_100 (lv_at hl 0 rfl) ?_
              obtain ⟨j112_10, ej112_10, h⟩ := gx_let h
              have hj112_10 : ∀ (z0_112 : Int32) (H : Heap) (locs : List Loc) (ls : Array Slot), j112_10 z0_112 = some w' → va_P D vwCl (wM cI cZ ad w3) H → va_D A (wM cI cZ ad w3) → va_S A s.heap H locs → lv_has ls 7 [(0, .ref (ad 0)), (1, .int x1_3), (2, .int v3)] → W p l e rX10_setsSpeeds s m ([.ref (ad 0)] : List Value).toArray below meth c H locs 0 0 Q (F0 m 112 ls [.int z0_112, .int x1_3, .ref (ad 11)]) := by
                intro z0_112 H locs ls h hP hD hS hl
                subst ej112_10
                obtain ⟨b11, h⟩ := gx_in h
                refine va_iast (D := D) hx hb hK hP hD hS 11 0 rfl rfl b11 dX10_setsSpeeds_112 (fun H locs hP hD hS => ?_)
                obtain ⟨u12, eu12, h⟩ := gx_let h
                replace hP : va_P D vwCl (wM cI cZ ad u12) H := by rw [← eu12]; exact hP
                replace hD : va_D A (wM cI cZ ad u12) := by rw [← eu12]; exact hD
                refine lv_aload_n hx hb dX10_setsSpeeds_113 rfl (lv_at hl 0 rfl) ?_
                refine va_get (D := D) (ci := 10) (v := .ref (ad 12)) (C := RX10) (T := TX10) (N := 32) hx hb hts iX10 hown hK hP 0 rfl rfl 17 (by decide) hf44 (fun _ h9 => h9) rfl dX10_setsSpeeds_114 ?_
                refine lv_iload_n hx hb dX10_setsSpeeds_117 rfl (lv_at hl 1 rfl) ?_
                refine lv_aload_n hx hb dX10_setsSpeeds_118 rfl (lv_at hl 0 rfl) ?_
                refine va_get (D := D) (ci := 10) (v := .ref (ad 11)) (C := RX10) (T := TX10) (N := 32) hx hb hts iX10 hown hK hP 0 rfl rfl 16 (by decide) hf41 (fun _ h9 => h9) rfl dX10_setsSpeeds_119 ?_
                refine lv_iload_n hx hb dX10_setsSpeeds_122 rfl (lv_at hl 1 rfl) ?_
                obtain ⟨b13, h⟩ := gx_in h
                refine va_iald (D := D) hx hb hK hP 11 0 rfl rfl b13 dX10_setsSpeeds_123 ?_
                refine lv_iload_n hx hb dX10_setsSpeeds_124 rfl (lv_at hl 2 rfl) ?_
                obtain ⟨j141_14, ej141_14, h⟩ := gx_let h
                have hj141_14 : ∀ (z0_141 : Int32) (H : Heap) (locs : List Loc) (ls : Array Slot), j141_14 z0_141 = some w' → va_P D vwCl (wM cI cZ ad u12) H → va_D A (wM cI cZ ad u12) → va_S A s.heap H locs → lv_has ls 7 [(0, .ref (ad 0)), (1, .int x1_3)] → W p l e rX10_setsSpeeds s m ([.ref (ad 0)] : List Value).toArray below meth c H locs 0 0 Q (F0 m 141 ls [.int z0_141, .int x1_3, .ref (ad 12)]) := by
                  intro z0_141 H locs ls h hP hD hS hl
                  subst ej141_14
                  obtain ⟨b15, h⟩ := gx_in h
                  refine va_iast (D := D) hx hb hK hP hD hS 12 0 rfl rfl b15 dX10_setsSpeeds_141 (fun H locs hP hD hS => ?_)
                  obtain ⟨u16, eu16, h⟩ := gx_let h
                  replace hP : va_P D vwCl (wM cI cZ ad u16) H := by rw [← eu16]; exact hP
                  replace hD : va_D A (wM cI cZ ad u16) := by rw [← eu16]; exact hD
                  obtain ⟨v17, ev17, h⟩ := gx_let h
                  refine lv_iinc (v := v17) (lv' := [(1, .int v17), (0, .ref (ad 0))]) hx hb dX10_setsSpeeds_142 hl (k := 1) rfl (by rw [← ev17]; rfl) (by decide) rfl (fun ls hl => ?_)
                  refine lv_goto (tgt := 3) hx hb dX10_setsSpeeds_145 (by decide) ?_
                  exact ih v17 u16 _ _ _ h hP hD hS (lv_sub hl [1, 0] rfl)
                refine lv_icmp_ge (tgt := 135) hx hb dX10_setsSpeeds_125 (by decide) (fun c18 => ?_) (fun c18 => ?_)
                · replace h := gx_t c18 h
                  refine lv_aload_n hx hb dX10_setsSpeeds_135 rfl (lv_at hl 0 rfl) ?_
                  refine va_get (D := D) (ci := 10) (v := .ref (ad 12)) (C := RX10) (T := TX10) (N := 32) hx hb hts iX10 hown hK hP 0 rfl rfl 17 (by decide) hf44 (fun _ h9 => h9) rfl dX10_setsSpeeds_136 ?_
                  refine lv_iload_n hx hb dX10_setsSpeeds_139 rfl (lv_at hl 1 rfl) ?_
                  obtain ⟨b19, h⟩ := gx_in h
                  refine va_iald (D := D) hx hb hK hP 12 0 rfl rfl b19 dX10_setsSpeeds_140 ?_
                  exact hj141_14 (mS_lowered u12 x1_3.toNatClampNeg) _ _ _ h hP hD hS (lv_sub hl [0, 1] rfl)
                · replace h := gx_f c18 h
                  refine lv_aload_n hx hb dX10_setsSpeeds_128 rfl (lv_at hl 0 rfl) ?_
                  refine va_get (D := D) (ci := 10) (v := .int (m_now u12)) (C := RX10) (T := TX10) (N := 32) hx hb hts iX10 hown hK hP 0 rfl rfl 1 (by decide) hf95 (fun _ h9 => h9) rfl dX10_setsSpeeds_129 ?_
                  refine lv_goto (tgt := 141) hx hb dX10_setsSpeeds_132 (by decide) ?_
                  exact hj141_14 (m_now u12) _ _ _ h hP hD hS (lv_sub hl [0, 1] rfl)
              refine lv_icmp_ge (tgt := 110) hx hb dX10_setsSpeeds_102 (by decide) (fun c20 => ?_) (fun c20 => ?_)
              · replace h := gx_t c20 h
                refine lv_iload hx hb dX10_setsSpeeds_110 (lv_at hl 0 rfl) ?_
                exact hj112_10 z0_91 _ _ _ h hP hD hS (lv_sub hl [1, 2, 3] rfl)
              · replace h := gx_f c20 h
                refine lv_iload hx hb dX10_setsSpeeds_105 (lv_at hl 4 rfl) ?_
                refine lv_goto (tgt := 112) hx hb dX10_setsSpeeds_107 (by decide) ?_
                exact hj112_10 z0_67 _ _ _ h hP hD hS (lv_sub hl [1, 2, 3] rfl)
            refine lv_icmp_ge (tgt := 89) hx hb dX10_setsSpeeds_72 (by decide) (fun c21 => ?_) (fun c21 => ?_)
            · replace h := gx_t c21 h
              refine lv_bipush (v := 120) hx hb dX10_setsSpeeds_89 (by decide) ?_
              exact hj91_9 (120 : Int32) _ _ _ h hP hD hS (lv_sub hl [1, 2, 3, 0] rfl)
            · replace h := gx_f c21 h
              refine lv_aload_n hx hb dX10_setsSpeeds_75 rfl (lv_at hl 1 rfl) ?_
              refine va_get (D := D) (ci := 10) (v := .ref (ad 11)) (C := RX10) (T := TX10) (N := 32) hx hb hts iX10 hown hK hP 0 rfl rfl 16 (by decide) hf41 (fun _ h9 => h9) rfl dX10_setsSpeeds_76 ?_
              refine lv_iload_n hx hb dX10_setsSpeeds_79 rfl (lv_at hl 2 rfl) ?_
              refine lv_iconst (v := 1) hx hb dX10_setsSpeeds_80 (by decide) ?_
              refine lv_iadd hx hb dX10_setsSpeeds_81 ?_
              obtain ⟨b22, h⟩ := gx_in h
              refine va_iald (D := D) hx hb hK hP 11 0 rfl rfl b22 dX10_setsSpeeds_82 ?_
              refine lv_bipush (v := 20) hx hb dX10_setsSpeeds_83 (by decide) ?_
              refine lv_iadd hx hb dX10_setsSpeeds_85 ?_
              refine lv_goto (tgt := 91) hx hb dX10_setsSpeeds_86 (by decide) ?_
              exact hj91_9 ((mS_speedSign w3 (x1_3 + (1 : Int32)).toNatClampNeg) + (20 : Int32)) _ _ _ h hP hD hS (lv_sub hl [1, 2, 3, 0] rfl)
          refine lv_if_eq (tgt := 66) hx hb dX10_setsSpeeds_59 (by decide) (fun c23 => ?_) (fun c23 => ?_)
          · replace h := gx_t c23 h
            refine lv_iload_n hx hb dX10_setsSpeeds_66 rfl (lv_at hl 4 rfl) ?_
            exact hj67_8 y4 _ _ _ h hP hD hS (lv_sub hl [1, 2, 3] rfl)
          · replace h := gx_f c23 h
            refine lv_iload_n hx hb dX10_setsSpeeds_62 rfl (lv_at hl 3 rfl) ?_
            refine lv_goto (tgt := 67) hx hb dX10_setsSpeeds_63 (by decide) ?_
            exact hj67_8 v3 _ _ _ h hP hD hS (lv_sub hl [1, 2, 3] rfl)
        obtain ⟨j54_24, ej54_24, h⟩ := gx_let h
        have hj54_24 : ∀ (H : Heap) (locs : List Loc) (ls : Array Slot), j54_24 () = some w' → va_P D vwCl (wM cI cZ ad w3) H → va_D A (wM cI cZ ad w3) → va_S A s.heap H locs → lv_has ls 7 [(0, .ref (ad 0)), (1, .int x1_3), (2, .int v3), (3, .int y4)] → W p l e rX10_setsSpeeds s m ([.ref (ad 0)] : List Value).toArray below meth c H locs 0 0 Q (F0 m 54 ls []) := by
          intro  H locs ls h hP hD hS hl
          subst ej54_24
          refine lv_iconst (v := 0) hx hb dX10_setsSpeeds_54 (by decide) ?_
          exact hj55_7 (0 : Int32) _ _ _ h hP hD hS (lv_sub hl [0, 1, 2, 3] rfl)
        refine lv_icmp_ne (tgt := 54) hx hb dX10_setsSpeeds_27 (by decide) (fun c25 => ?_) (fun c25 => ?_)
        · replace h := gx_f c25 h
          exact hj54_24 _ _ _ h hP hD hS (lv_sub hl [2, 3, 1, 0] rfl)
        · replace h := gx_t c25 h
          refine lv_iload_n hx hb dX10_setsSpeeds_30 rfl (lv_at hl 0 rfl) ?_
          refine lv_iload_n hx hb dX10_setsSpeeds_31 rfl (lv_at hl 1 rfl) ?_
          refine lv_icmp_le (tgt := 54) hx hb dX10_setsSpeeds_32 (by decide) (fun c26 => ?_) (fun c26 => ?_)
          · replace h := gx_t c26 h
            exact hj54_24 _ _ _ h hP hD hS (lv_sub hl [2, 3, 1, 0] rfl)
          · replace h := gx_f c26 h
            refine lv_aload_n hx hb dX10_setsSpeeds_35 rfl (lv_at hl 2 rfl) ?_
            refine va_get (D := D) (ci := 10) (v := .int (m_now w3)) (C := RX10) (T := TX10) (N := 32) hx hb hts iX10 hown hK hP 0 rfl rfl 1 (by decide) hf95 (fun _ h9 => h9) rfl dX10_setsSpeeds_36 ?_
            refine lv_aload_n hx hb dX10_setsSpeeds_39 rfl (lv_at hl 2 rfl) ?_
            refine va_get (D := D) (ci := 10) (v := .ref (ad 12)) (C := RX10) (T := TX10) (N := 32) hx hb hts iX10 hown hK hP 0 rfl rfl 17 (by decide) hf44 (fun _ h9 => h9) rfl dX10_setsSpeeds_40 ?_
            refine lv_iload_n hx hb dX10_setsSpeeds_43 rfl (lv_at hl 3 rfl) ?_
            obtain ⟨b27, h⟩ := gx_in h
            refine va_iald (D := D) hx hb hK hP 12 0 rfl rfl b27 dX10_setsSpeeds_44 ?_
            refine lv_isub hx hb dX10_setsSpeeds_45 ?_
            refine lv_iconst (v := 3) hx hb dX10_setsSpeeds_46 (by decide) ?_
            refine lv_icmp_ge (tgt := 54) hx hb dX10_setsSpeeds_47 (by decide) (fun c28 => ?_) (fun c28 => ?_)
            · replace h := gx_t c28 h
              exact hj54_24 _ _ _ h hP hD hS (lv_sub hl [2, 3, 1, 0] rfl)
            · replace h := gx_f c28 h
              refine lv_iconst (v := 1) hx hb dX10_setsSpeeds_50 (by decide) ?_
              refine lv_goto (tgt := 55) hx hb dX10_setsSpeeds_51 (by decide) ?_
              exact hj55_7 (1 : Int32) _ _ _ h hP hD hS (lv_sub hl [2, 3, 1, 0] rfl)
  refine hL3 _ (fun w3 H locs ls h hP hD hS hl => ?_) FU (11 : Int32) u _ _ _ h hP hD hS (lv_sub hl [1, 0] rfl)
  cases h
  exact cc_vret hx hb hr hQ hK hP hD hS dX10_setsSpeeds_148 hlocks

def rX10_minute : Room := { frames := 7, cells := 0, slots := 0, locals := 166 }
set_option maxHeartbeats 4000000 in
set_option maxRecDepth 100000 in
theorem k_X10_minute (l : Launch) (D : va_G) (cI cZ : ClassId) (ad : Nat → Nat) (u : MS) {w' : MS} (h : g_X10_minute u = some w') : MV l yX10_minute (wm yX10_minute cX10_minute 3 none) rX10_minute D [(cI, .int), (cZ, .boolean)] (wM cI cZ ad u) (wM cI cZ ad w') [.ref (ad 0)] := by
  intro sz
  refine Met.ofW (cc := cX10_minute) (maxL := 3) (ret := none) (by decide) rfl ?_
  intro p e s m args below meth c s₁ B hml hv
  obtain ⟨rfl, hsz, hP, hK, hD0, hZ⟩ := hv
  have hx := B.exec
  have hb := B.bytes
  have hr := B.returns
  have hts : ∀ w ∈ Wall, w.before _ s = true := fun w hw => atoms_spec (ws := wm yX10_minute cX10_minute 3 none) B.pre w (List.mem_cons_of_mem _ hw)
  have hown : s.vm.findClass RX10 = some m.cls := findClass_of_methodNamed B.named
  have hlocks := B.notSynchronized
  subst hsz
  have hD := hD0.self (sz := s.heap.size)
  generalize hAe : va_A (wM cI cZ ad u) s.heap.size = A at hD hZ ⊢
  have hA : ∀ q : Nat, s.heap.size ≤ q → A q := fun q h => by rw [← hAe]; exact Or.inr h
  have hS : va_S A s.heap s.heap [] := va_S.rf
  have hf95 := hts _ mw_872
  have hf20 := hts _ mw_880
  have hl := lv_entry ([.ref (ad 0)]) (n := 3) (Nat.le_of_ble_eq_true rfl)
  rw [lg_entry_eq]
  generalize (lg_sl ([.ref (ad 0)]) ++ List.replicate (3 - (lg_sl ([.ref (ad 0)])).length) Slot.unset).toArray = ls at hl ⊢
  replace hl : lv_has ls 3 [(0, .ref (ad 0))] := hl
  refine w_gen (fun Q hQ => ?_)
  refine lv_aload_n hx hb dX10_minute_0 rfl (lv_at hl 0 rfl) ?_
  refine lv_dup hx hb dX10_minute_1 rfl ?_
  refine va_get (D := D) (ci := 10) (v := .int (m_now u)) (C := RX10) (T := TX10) (N := 32) hx hb hts iX10 hown hK hP 0 rfl rfl 1 (by decide) hf95 (fun _ h9 => h9) rfl dX10_minute_2 ?_
  refine lv_iconst (v := 1) hx hb dX10_minute_5 (by decide) ?_
  refine lv_iadd hx hb dX10_minute_6 ?_
  refine va_put (D := D) (ci := 10) (v := .int ((m_now u) + (1 : Int32))) (ty := .int) (C := RX10) (T := TX10) (N := 32) hx hb hts iX10 tyX10 tyX10_ok nmX10 hown hK hP hD hS 0 rfl rfl 1 (by decide) hf95 (fun _ h9 => h9) rfl (by decide +kernel) rfl rfl (Nat.le_of_ble_eq_true rfl) dX10_minute_7 (fun H locs hP hD hS => ?_)
  obtain ⟨u1, eu1, h⟩ := gx_let h
  replace hP : va_P D vwCl (wM cI cZ ad u1) H := by rw [← eu1]; exact hP
  replace hD : va_D A (wM cI cZ ad u1) := by rw [← eu1]; exact hD
  refine lv_aload_n hx hb dX10_minute_10 rfl (lv_at hl 0 rfl) ?_
  obtain ⟨y2, hc3, h⟩ := gx_bind h
  refine cc_vV (As := []) (rest := []) ⟨hx, hb, hml, hown, hts⟩ (k_X10_patrols l D cI cZ ad u1 hc3) (cwV 0 hts (gwV mw_988 mw_990 mw_26 mw_59 mw_991) rfl rfl rfl (by decide +kernel) ⟨Nat.le_of_ble_eq_true rfl, Nat.le_of_ble_eq_true rfl⟩) hK hP hD hS hA hZ (ci := 10) (q0 := 0) rfl rfl rfl hl.1 rfl (Nat.le_of_ble_eq_true rfl) dX10_minute_11 ⟨Nat.zero_le _, Nat.zero_le _⟩ (fun H locs hP hD hS => ?_)
  refine lv_bipush (v := 11) hx hb dX10_minute_14 (by decide) ?_
  refine lv_istore_n (lv' := [(1, .int (11 : Int32)), (0, .ref (ad 0))]) hx hb dX10_minute_16 rfl hl (by decide) rfl (fun ls hl => ?_)
  have hL17 : ∀ (k : MS → Option (MS)) (hk : ∀ (w17 : MS) (H : Heap) (locs : List Loc) (ls : Array Slot), k w17 = some w' → va_P D vwCl (wM cI cZ ad w17) H → va_D A (wM cI cZ ad w17) → va_S A s.heap H locs → lv_has ls 3 [(0, .ref (ad 0))] → W p l e rX10_minute s m ([.ref (ad 0)] : List Value).toArray below meth c H locs 0 0 Q (F0 m 46 ls [])) (n : Nat) (x1_17 : Int32) (w17 : MS) (H : Heap) (locs : List Loc) (ls : Array Slot), lp_X10_minute_17 k n x1_17 w17 = some w' → va_P D vwCl (wM cI cZ ad w17) H → va_D A (wM cI cZ ad w17) → va_S A s.heap H locs → lv_has ls 3 [(0, .ref (ad 0)), (1, .int x1_17)] → W p l e rX10_minute s m ([.ref (ad 0)] : List Value).toArray below meth c H locs 0 0 Q (F0 m 17 ls []) := by
    intro k hk n
    induction n with
    | zero =>
      intro x1_17 w17 H locs ls h
      rw [lp_X10_minute_17] at h
      cases h
    | succ n ih =>
      intro x1_17 w17 H locs ls h hP hD hS hl
      rw [lp_X10_minute_17] at h
      refine lv_iload_n hx hb dX10_minute_17 rfl (lv_at hl 1 rfl) ?_
      refine lv_if_lt (tgt := 46) hx hb dX10_minute_18 (by decide) (fun c4 => ?_) (fun c4 => ?_)
      · replace h := gx_t c4 h
        exact hk w17 _ _ _ h hP hD hS (lv_sub hl [0] rfl)
      · replace h := gx_f c4 h
        refine lv_iconst (v := 0) hx hb dX10_minute_21 (by decide) ?_
        refine lv_istore_n (lv' := [(2, .int (0 : Int32)), (0, .ref (ad 0)), (1, .int x1_17)]) hx hb dX10_minute_22 rfl hl (by decide) rfl (fun ls hl => ?_)
        have hL23 : ∀ (k : MS → Option (MS)) (hk : ∀ (w23 : MS) (H : Heap) (locs : List Loc) (ls : Array Slot), k w23 = some w' → va_P D vwCl (wM cI cZ ad w23) H → va_D A (wM cI cZ ad w23) → va_S A s.heap H locs → lv_has ls 3 [(0, .ref (ad 0)), (1, .int x1_17)] → W p l e rX10_minute s m ([.ref (ad 0)] : List Value).toArray below meth c H locs 0 0 Q (F0 m 40 ls [])) (n : Nat) (x2_23 : Int32) (w23 : MS) (H : Heap) (locs : List Loc) (ls : Array Slot), lp_X10_minute_23 x1_17 k n x2_23 w23 = some w' → va_P D vwCl (wM cI cZ ad w23) H → va_D A (wM cI cZ ad w23) → va_S A s.heap H locs → lv_has ls 3 [(0, .ref (ad 0)), (1, .int x1_17), (2, .int x2_23)] → W p l e rX10_minute s m ([.ref (ad 0)] : List Value).toArray below meth c H locs 0 0 Q (F0 m 23 ls []) := by
          intro k hk n
          induction n with
          | zero =>
            intro x2_23 w23 H locs ls h
            rw [lp_X10_minute_23] at h
            cases h
          | succ n ih =>
            intro x2_23 w23 H locs ls h hP hD hS hl
            rw [lp_X10_minute_23] at h
            refine lv_iload_n hx hb dX10_minute_23 rfl (lv_at hl 2 rfl) ?_
            refine lv_iconst (v := 4) hx hb dX10_minute_24 (by decide) ?_
            refine lv_icmp_ge (tgt := 40) hx hb dX10_minute_25 (by decide) (fun c5 => ?_) (fun c5 => ?_)
            · replace h := gx_t c5 h
              exact hk w23 _ _ _ h hP hD hS (lv_sub hl [0, 1] rfl)
            · replace h := gx_f c5 h
              refine lv_aload_n hx hb dX10_minute_28 rfl (lv_at hl 0 rfl) ?_
              refine lv_iload_n hx hb dX10_minute_29 rfl (lv_at hl 1 rfl) ?_
              refine lv_iload_n hx hb dX10_minute_30 rfl (lv_at hl 2 rfl) ?_
              obtain ⟨y6, hc7, h⟩ := gx_bind h
              refine cc_vV (As := [.int x1_17, .int x2_23]) (rest := []) ⟨hx, hb, hml, hown, hts⟩ (k_X10_goes l D cI cZ ad w23 x1_17 x2_23 hc7) (cwV 2 hts (gwV mw_992 mw_994 mw_27 mw_59 mw_995) rfl rfl rfl (by decide +kernel) ⟨Nat.le_of_ble_eq_true rfl, Nat.le_of_ble_eq_true rfl⟩) hK hP hD hS hA hZ (ci := 10) (q0 := 0) rfl rfl rfl hl.1 rfl (Nat.le_of_ble_eq_true rfl) dX10_minute_31 ⟨Nat.zero_le _, Nat.zero_le _⟩ (fun H locs hP hD hS => ?_)
              obtain ⟨v8, ev8, h⟩ := gx_let h
              refine lv_iinc (v := v8) (lv' := [(2, .int v8), (0, .ref (ad 0)), (1, .int x1_17)]) hx hb dX10_minute_34 hl (k := 2) rfl (by rw [← ev8]; rfl) (by decide) rfl (fun ls hl => ?_)
              refine lv_goto (tgt := 23) hx hb dX10_minute_37 (by decide) ?_
              exact ih v8 y6 _ _ _ h hP hD hS (lv_sub hl [1, 2, 0] rfl)
        refine hL23 _ (fun w23 H locs ls h hP hD hS hl => ?_) FU (0 : Int32) w17 _ _ _ h hP hD hS (lv_sub hl [1, 2, 0] rfl)
        obtain ⟨v9, ev9, h⟩ := gx_let h
        refine lv_iinc (v := v9) (lv' := [(1, .int v9), (0, .ref (ad 0))]) hx hb dX10_minute_40 hl (k := 1) rfl (by rw [← ev9]; rfl) (by decide) rfl (fun ls hl => ?_)
        refine lv_goto (tgt := 17) hx hb dX10_minute_43 (by decide) ?_
        exact ih v9 w23 _ _ _ h hP hD hS (lv_sub hl [1, 0] rfl)
  refine hL17 _ (fun w17 H locs ls h hP hD hS hl => ?_) FU (11 : Int32) y2 _ _ _ h hP hD hS (lv_sub hl [1, 0] rfl)
  refine lv_aload_n hx hb dX10_minute_46 rfl (lv_at hl 0 rfl) ?_
  obtain ⟨y10, hc11, h⟩ := gx_bind h
  refine cc_vV (As := []) (rest := []) ⟨hx, hb, hml, hown, hts⟩ (k_X10_comes l D cI cZ ad w17 hc11) (cwV 0 hts (gwV mw_1004 mw_1006 mw_30 mw_59 mw_1007) rfl rfl rfl (by decide +kernel) ⟨Nat.le_of_ble_eq_true rfl, Nat.le_of_ble_eq_true rfl⟩) hK hP hD hS hA hZ (ci := 10) (q0 := 0) rfl rfl rfl hl.1 rfl (Nat.le_of_ble_eq_true rfl) dX10_minute_47 ⟨Nat.zero_le _, Nat.zero_le _⟩ (fun H locs hP hD hS => ?_)
  refine lv_iconst (v := 0) hx hb dX10_minute_50 (by decide) ?_
  refine lv_istore_n (lv' := [(1, .int (0 : Int32)), (0, .ref (ad 0))]) hx hb dX10_minute_51 rfl hl (by decide) rfl (fun ls hl => ?_)
  have hL52 : ∀ (k : MS → Option (MS)) (hk : ∀ (w52 : MS) (H : Heap) (locs : List Loc) (ls : Array Slot), k w52 = some w' → va_P D vwCl (wM cI cZ ad w52) H → va_D A (wM cI cZ ad w52) → va_S A s.heap H locs → lv_has ls 3 [(0, .ref (ad 0))] → W p l e rX10_minute s m ([.ref (ad 0)] : List Value).toArray below meth c H locs 0 0 Q (F0 m 102 ls [])) (n : Nat) (x1_52 : Int32) (w52 : MS) (H : Heap) (locs : List Loc) (ls : Array Slot), lp_X10_minute_52 k n x1_52 w52 = some w' → va_P D vwCl (wM cI cZ ad w52) H → va_D A (wM cI cZ ad w52) → va_S A s.heap H locs → lv_has ls 3 [(0, .ref (ad 0)), (1, .int x1_52)] → W p l e rX10_minute s m ([.ref (ad 0)] : List Value).toArray below meth c H locs 0 0 Q (F0 m 52 ls []) := by
    intro k hk n
    induction n with
    | zero =>
      intro x1_52 w52 H locs ls h
      rw [lp_X10_minute_52] at h
      cases h
    | succ n ih =>
      intro x1_52 w52 H locs ls h hP hD hS hl
      rw [lp_X10_minute_52] at h
      refine lv_iload_n hx hb dX10_minute_52 rfl (lv_at hl 1 rfl) ?_
      refine lv_bipush (v := 12) hx hb dX10_minute_53 (by decide) ?_
      refine lv_icmp_ge (tgt := 102) hx hb dX10_minute_55 (by decide) (fun c12 => ?_) (fun c12 => ?_)
      · replace h := gx_t c12 h
        exact hk w52 _ _ _ h hP hD hS (lv_sub hl [0] rfl)
      · replace h := gx_f c12 h
        refine lv_aload_n hx hb dX10_minute_58 rfl (lv_at hl 0 rfl) ?_
        refine lv_iload_n hx hb dX10_minute_59 rfl (lv_at hl 1 rfl) ?_
        obtain ⟨y13, hc14, h⟩ := gx_bind h
        refine cc_iV (As := [.int x1_52]) (rest := []) ⟨hx, hb, hml, hown, hts⟩ (k_X10_mostOf l D cI cZ ad w52 x1_52 hc14) (cwV 1 hts (gwV mw_1008 mw_1010 mw_31 mw_59 mw_1011) rfl rfl rfl (by decide +kernel) ⟨Nat.le_of_ble_eq_true rfl, Nat.le_of_ble_eq_true rfl⟩) hK hP hD hS hA hZ (ci := 10) (q0 := 0) rfl rfl rfl hl.1 rfl (Nat.le_of_ble_eq_true rfl) dX10_minute_60 ⟨Nat.zero_le _, Nat.zero_le _⟩ (fun H locs hP hD hS => ?_)
        refine lv_istore_n (lv' := [(2, .int y13), (0, .ref (ad 0)), (1, .int x1_52)]) hx hb dX10_minute_63 rfl hl (by decide) rfl (fun ls hl => ?_)
        refine lv_aload_n hx hb dX10_minute_64 rfl (lv_at hl 1 rfl) ?_
        refine va_get (D := D) (ci := 10) (v := .ref (ad 4)) (C := RX10) (T := TX10) (N := 32) hx hb hts iX10 hown hK hP 0 rfl rfl 9 (by decide) hf20 (fun _ h9 => h9) rfl dX10_minute_65 ?_
        refine lv_iload_n hx hb dX10_minute_68 rfl (lv_at hl 2 rfl) ?_
        refine lv_iload_n hx hb dX10_minute_69 rfl (lv_at hl 0 rfl) ?_
        refine lv_bipush (v := 15) hx hb dX10_minute_70 (by decide) ?_
        obtain ⟨j95_15, ej95_15, h⟩ := gx_let h
        have hj95_15 : ∀ (z0_95 : Int32) (H : Heap) (locs : List Loc) (ls : Array Slot), j95_15 z0_95 = some w' → va_P D vwCl (wM cI cZ ad w52) H → va_D A (wM cI cZ ad w52) → va_S A s.heap H locs → lv_has ls 3 [(0, .ref (ad 0)), (1, .int x1_52)] → W p l e rX10_minute s m ([.ref (ad 0)] : List Value).toArray below meth c H locs 0 0 Q (F0 m 95 ls [.int z0_95, .int x1_52, .ref (ad 4)]) := by
          intro z0_95 H locs ls h hP hD hS hl
          subst ej95_15
          obtain ⟨b16, h⟩ := gx_in h
          refine va_zast (D := D) hx hb hK hP hD hS 4 1 rfl rfl b16 dX10_minute_95 (fun H locs hP hD hS => ?_)
          obtain ⟨u17, eu17, h⟩ := gx_let h
          replace hP : va_P D vwCl (wM cI cZ ad u17) H := by rw [← eu17]; exact hP
          replace hD : va_D A (wM cI cZ ad u17) := by rw [← eu17]; exact hD
          obtain ⟨v18, ev18, h⟩ := gx_let h
          refine lv_iinc (v := v18) (lv' := [(1, .int v18), (0, .ref (ad 0))]) hx hb dX10_minute_96 hl (k := 1) rfl (by rw [← ev18]; rfl) (by decide) rfl (fun ls hl => ?_)
          refine lv_goto (tgt := 52) hx hb dX10_minute_99 (by decide) ?_
          exact ih v18 u17 _ _ _ h hP hD hS (lv_sub hl [1, 0] rfl)
        obtain ⟨j90_19, ej90_19, h⟩ := gx_let h
        have hj90_19 : ∀ (H : Heap) (locs : List Loc) (ls : Array Slot), j90_19 () = some w' → va_P D vwCl (wM cI cZ ad w52) H → va_D A (wM cI cZ ad w52) → va_S A s.heap H locs → lv_has ls 3 [(0, .ref (ad 0)), (1, .int x1_52)] → W p l e rX10_minute s m ([.ref (ad 0)] : List Value).toArray below meth c H locs 0 0 Q (F0 m 90 ls [.int x1_52, .ref (ad 4)]) := by
          intro  H locs ls h hP hD hS hl
          subst ej90_19
          refine lv_iconst (v := 1) hx hb dX10_minute_90 (by decide) ?_
          refine lv_goto (tgt := 95) hx hb dX10_minute_91 (by decide) ?_
          exact hj95_15 (1 : Int32) _ _ _ h hP hD hS (lv_sub hl [0, 1] rfl)
        refine lv_icmp_ge (tgt := 90) hx hb dX10_minute_72 (by decide) (fun c20 => ?_) (fun c20 => ?_)
        · replace h := gx_t c20 h
          exact hj90_19 _ _ _ h hP hD hS (lv_sub hl [1, 2] rfl)
        · replace h := gx_f c20 h
          refine lv_aload_n hx hb dX10_minute_75 rfl (lv_at hl 1 rfl) ?_
          refine va_get (D := D) (ci := 10) (v := .ref (ad 4)) (C := RX10) (T := TX10) (N := 32) hx hb hts iX10 hown hK hP 0 rfl rfl 9 (by decide) hf20 (fun _ h9 => h9) rfl dX10_minute_76 ?_
          refine lv_iload_n hx hb dX10_minute_79 rfl (lv_at hl 2 rfl) ?_
          obtain ⟨b21, h⟩ := gx_in h
          refine va_zald (D := D) hx hb hK hP 4 1 rfl rfl b21 dX10_minute_80 ?_
          obtain ⟨j94_22, ej94_22, h⟩ := gx_let h
          have hj94_22 : ∀ (H : Heap) (locs : List Loc) (ls : Array Slot), j94_22 () = some w' → va_P D vwCl (wM cI cZ ad w52) H → va_D A (wM cI cZ ad w52) → va_S A s.heap H locs → lv_has ls 3 [(0, .ref (ad 0)), (1, .int x1_52)] → W p l e rX10_minute s m ([.ref (ad 0)] : List Value).toArray below meth c H locs 0 0 Q (F0 m 94 ls [.int x1_52, .ref (ad 4)]) := by
            intro  H locs ls h hP hD hS hl
            subst ej94_22
            refine lv_iconst (v := 0) hx hb dX10_minute_94 (by decide) ?_
            exact hj95_15 (0 : Int32) _ _ _ h hP hD hS (lv_sub hl [0, 1] rfl)
          refine lv_if_eq (tgt := 94) hx hb dX10_minute_81 (by decide) (fun c23 => ?_) (fun c23 => ?_)
          · replace h := gx_t c23 h
            exact hj94_22 _ _ _ h hP hD hS (lv_sub hl [1, 2] rfl)
          · replace h := gx_f c23 h
            refine lv_iload_n hx hb dX10_minute_84 rfl (lv_at hl 0 rfl) ?_
            refine lv_bipush (v := 8) hx hb dX10_minute_85 (by decide) ?_
            refine lv_icmp_lt (tgt := 94) hx hb dX10_minute_87 (by decide) (fun c24 => ?_) (fun c24 => ?_)
            · replace h := gx_t c24 h
              exact hj94_22 _ _ _ h hP hD hS (lv_sub hl [1, 2] rfl)
            · replace h := gx_f c24 h
              exact hj90_19 _ _ _ h hP hD hS (lv_sub hl [1, 2] rfl)
  refine hL52 _ (fun w52 H locs ls h hP hD hS hl => ?_) FU (0 : Int32) y10 _ _ _ h hP hD hS (lv_sub hl [1, 0] rfl)
  refine lv_aload_n hx hb dX10_minute_102 rfl (lv_at hl 0 rfl) ?_
  obtain ⟨y25, hc26, h⟩ := gx_bind h
  refine cc_vV (As := []) (rest := []) ⟨hx, hb, hml, hown, hts⟩ (k_X10_setsSpeeds l D cI cZ ad w52 hc26) (cwV 0 hts (gwV mw_1012 mw_1014 mw_32 mw_59 mw_1015) rfl rfl rfl (by decide +kernel) ⟨Nat.le_of_ble_eq_true rfl, Nat.le_of_ble_eq_true rfl⟩) hK hP hD hS hA hZ (ci := 10) (q0 := 0) rfl rfl rfl hl.1 rfl (Nat.le_of_ble_eq_true rfl) dX10_minute_103 ⟨Nat.zero_le _, Nat.zero_le _⟩ (fun H locs hP hD hS => ?_)
  refine lv_aload_n hx hb dX10_minute_106 rfl (lv_at hl 0 rfl) ?_
  obtain ⟨y27, hc28, h⟩ := gx_bind h
  refine cc_vV (As := []) (rest := []) ⟨hx, hb, hml, hown, hts⟩ (k_X10_keeps l D cI cZ ad y25 hc28) (cwV 0 hts (gwV mw_844 mw_846 mw_18 mw_59 mw_847) rfl rfl rfl (by decide +kernel) ⟨Nat.le_of_ble_eq_true rfl, Nat.le_of_ble_eq_true rfl⟩) hK hP hD hS hA hZ (ci := 10) (q0 := 0) rfl rfl rfl hl.1 rfl (Nat.le_of_ble_eq_true rfl) dX10_minute_107 ⟨Nat.zero_le _, Nat.zero_le _⟩ (fun H locs hP hD hS => ?_)
  cases h
  exact cc_vret hx hb hr hQ hK hP hD hS dX10_minute_110 hlocks

def rX10_demand : Room := { frames := 1, cells := 0, slots := 0, locals := 22 }
set_option maxHeartbeats 4000000 in
set_option maxRecDepth 100000 in
theorem k_X10_demand (l : Launch) (D : va_G) (cI cZ : ClassId) (ad : Nat → Nat) (u : MS) (p0 : Int32) {r : Int32} {w' : MS} (h : g_X10_demand u p0 = some (r, w')) : MI l yX10_demand (wm yX10_demand cX10_demand 3 (some .int)) rX10_demand D [(cI, .int), (cZ, .boolean)] (wM cI cZ ad u) (wM cI cZ ad w') [.ref (ad 0), .int p0] r := by
  intro sz
  refine Met.ofW (cc := cX10_demand) (maxL := 3) (ret := (some .int)) (by decide) rfl ?_
  intro p e s m args below meth c s₁ B hml hv
  obtain ⟨rfl, hsz, hP, hK, hD0, hZ⟩ := hv
  have hx := B.exec
  have hb := B.bytes
  have hr := B.returns
  have hts : ∀ w ∈ Wall, w.before _ s = true := fun w hw => atoms_spec (ws := wm yX10_demand cX10_demand 3 (some .int)) B.pre w (List.mem_cons_of_mem _ hw)
  have hown : s.vm.findClass RX10 = some m.cls := findClass_of_methodNamed B.named
  have hlocks := B.notSynchronized
  subst hsz
  have hD := hD0.self (sz := s.heap.size)
  generalize hAe : va_A (wM cI cZ ad u) s.heap.size = A at hD hZ ⊢
  have hA : ∀ q : Nat, s.heap.size ≤ q → A q := fun q h => by rw [← hAe]; exact Or.inr h
  have hS : va_S A s.heap s.heap [] := va_S.rf
  have hf133 := hts _ mw_873
  have hl := lv_entry ([.ref (ad 0), .int p0]) (n := 3) (Nat.le_of_ble_eq_true rfl)
  rw [lg_entry_eq]
  generalize (lg_sl ([.ref (ad 0), .int p0]) ++ List.replicate (3 - (lg_sl ([.ref (ad 0), .int p0])).length) Slot.unset).toArray = ls at hl ⊢
  replace hl : lv_has ls 3 [(0, .ref (ad 0)), (1, .int p0)] := hl
  refine w_gen (fun Q hQ => ?_)
  refine lv_aload_n hx hb dX10_demand_0 rfl (lv_at hl 0 rfl) ?_
  refine lv_iload_n hx hb dX10_demand_1 rfl (lv_at hl 1 rfl) ?_
  refine lv_iconst (v := 0) hx hb dX10_demand_2 (by decide) ?_
  refine lv_bipush (v := 40) hx hb dX10_demand_3 (by decide) ?_
  obtain ⟨y1, hc2, h⟩ := gx_bind h
  refine cc_iS (As := [.int p0, .int (0 : Int32), .int (40 : Int32)]) (rest := [.ref (ad 0)]) ⟨hx, hb, hml, hown, hts⟩ (k_X10_isIn l D cI cZ ad u p0 (0 : Int32) (40 : Int32) hc2) (va_cwS 3 hts (gwS mw_860 mw_861 mw_59 mw_862) rfl rfl rfl (by decide +kernel) ⟨Nat.le_of_ble_eq_true rfl, Nat.le_of_ble_eq_true rfl⟩) hK hP hD hS hA hZ rfl hl.1 rfl (Nat.le_of_ble_eq_true rfl) dX10_demand_5 ⟨Nat.zero_le _, Nat.zero_le _⟩ (fun H locs hP hD hS => ?_)
  obtain ⟨j16_3, ej16_3, h⟩ := gx_let h
  have hj16_3 : ∀ (z0_16 : Int32) (H : Heap) (locs : List Loc) (ls : Array Slot), j16_3 z0_16 = some (r, w') → va_P D vwCl (wM cI cZ ad u) H → va_D A (wM cI cZ ad u) → va_S A s.heap H locs → lv_has ls 3 [(0, .ref (ad 0)), (1, .int p0)] → W p l e rX10_demand s m ([.ref (ad 0), .int p0] : List Value).toArray below meth c H locs 0 0 Q (F0 m 16 ls [.int z0_16, .ref (ad 0)]) := by
    intro z0_16 H locs ls h hP hD hS hl
    subst ej16_3
    obtain ⟨y4, hc5, h⟩ := gx_bind h
    refine cc_iV (As := [.int z0_16]) (rest := []) ⟨hx, hb, hml, hown, hts⟩ (k_X10_holds l D cI cZ ad u z0_16 hc5) (cwV 1 hts (gwV mw_976 mw_978 mw_24 mw_59 mw_979) rfl rfl rfl (by decide +kernel) ⟨Nat.le_of_ble_eq_true rfl, Nat.le_of_ble_eq_true rfl⟩) hK hP hD hS hA hZ (ci := 10) (q0 := 0) rfl rfl rfl hl.1 rfl (Nat.le_of_ble_eq_true rfl) dX10_demand_16 ⟨Nat.zero_le _, Nat.zero_le _⟩ (fun H locs hP hD hS => ?_)
    refine lv_if_ne (tgt := 24) hx hb dX10_demand_19 (by decide) (fun c6 => ?_) (fun c6 => ?_)
    · replace h := gx_f c6 h
      refine lv_aload_n hx hb dX10_demand_24 rfl (lv_at hl 0 rfl) ?_
      refine va_get (D := D) (ci := 10) (v := .int (mT_demand y4.2)) (C := RX10) (T := TX10) (N := 32) hx hb hts iX10 hown hK hP 0 rfl rfl 2 (by decide) hf133 (fun _ h9 => h9) rfl dX10_demand_25 ?_
      obtain ⟨v7, ev7, h⟩ := gx_let h
      refine lv_topn ev7 ?_
      refine lv_istore_n (lv' := [(2, .int v7), (0, .ref (ad 0)), (1, .int p0)]) hx hb dX10_demand_28 rfl hl (by decide) rfl (fun ls hl => ?_)
      refine lv_aload_n hx hb dX10_demand_29 rfl (lv_at hl 1 rfl) ?_
      refine lv_iload_n hx hb dX10_demand_30 rfl (lv_at hl 2 rfl) ?_
      refine va_put (D := D) (ci := 10) (v := .int p0) (ty := .int) (C := RX10) (T := TX10) (N := 32) hx hb hts iX10 tyX10 tyX10_ok nmX10 hown hK hP hD hS 0 rfl rfl 2 (by decide) hf133 (fun _ h9 => h9) rfl (by decide +kernel) rfl rfl (Nat.le_of_ble_eq_true rfl) dX10_demand_31 (fun H locs hP hD hS => ?_)
      obtain ⟨u8, eu8, h⟩ := gx_let h
      replace hP : va_P D vwCl (wM cI cZ ad u8) H := by rw [← eu8]; exact hP
      replace hD : va_D A (wM cI cZ ad u8) := by rw [← eu8]; exact hD
      refine lv_iload_n hx hb dX10_demand_34 rfl (lv_at hl 0 rfl) ?_
      cases h
      exact cc_ret hx hb hr rfl hQ hK hP hD hS rfl dX10_demand_35 hlocks
    · replace h := gx_t c6 h
      refine lv_iconst (v := 0) hx hb dX10_demand_22 (by decide) ?_
      cases h
      exact cc_ret hx hb hr rfl hQ hK hP hD hS rfl dX10_demand_23 hlocks
  refine lv_if_eq (tgt := 15) hx hb dX10_demand_8 (by decide) (fun c9 => ?_) (fun c9 => ?_)
  · replace h := gx_t c9 h
    refine lv_iconst (v := 1) hx hb dX10_demand_15 (by decide) ?_
    exact hj16_3 (1 : Int32) _ _ _ h hP hD hS (lv_sub hl [0, 1] rfl)
  · replace h := gx_f c9 h
    refine lv_iconst (v := 0) hx hb dX10_demand_11 (by decide) ?_
    refine lv_goto (tgt := 16) hx hb dX10_demand_12 (by decide) ?_
    exact hj16_3 (0 : Int32) _ _ _ h hP hD hS (lv_sub hl [0, 1] rfl)

def rX10_pass : Room := { frames := 8, cells := 0, slots := 0, locals := 188 }
set_option maxHeartbeats 4000000 in
set_option maxRecDepth 100000 in
theorem k_X10_pass (l : Launch) (D : va_G) (cI cZ : ClassId) (ad : Nat → Nat) (u : MS) (p0 : Int32) {r : Int32} {w' : MS} (h : g_X10_pass u p0 = some (r, w')) : MI l yX10_pass (wm yX10_pass cX10_pass 3 (some .int)) rX10_pass D [(cI, .int), (cZ, .boolean)] (wM cI cZ ad u) (wM cI cZ ad w') [.ref (ad 0), .int p0] r := by
  intro sz
  refine Met.ofW (cc := cX10_pass) (maxL := 3) (ret := (some .int)) (by decide) rfl ?_
  intro p e s m args below meth c s₁ B hml hv
  obtain ⟨rfl, hsz, hP, hK, hD0, hZ⟩ := hv
  have hx := B.exec
  have hb := B.bytes
  have hr := B.returns
  have hts : ∀ w ∈ Wall, w.before _ s = true := fun w hw => atoms_spec (ws := wm yX10_pass cX10_pass 3 (some .int)) B.pre w (List.mem_cons_of_mem _ hw)
  have hown : s.vm.findClass RX10 = some m.cls := findClass_of_methodNamed B.named
  have hlocks := B.notSynchronized
  subst hsz
  have hD := hD0.self (sz := s.heap.size)
  generalize hAe : va_A (wM cI cZ ad u) s.heap.size = A at hD hZ ⊢
  have hA : ∀ q : Nat, s.heap.size ≤ q → A q := fun q h => by rw [← hAe]; exact Or.inr h
  have hS : va_S A s.heap s.heap [] := va_S.rf
  have hf95 := hts _ mw_872
  have hl := lv_entry ([.ref (ad 0), .int p0]) (n := 3) (Nat.le_of_ble_eq_true rfl)
  rw [lg_entry_eq]
  generalize (lg_sl ([.ref (ad 0), .int p0]) ++ List.replicate (3 - (lg_sl ([.ref (ad 0), .int p0])).length) Slot.unset).toArray = ls at hl ⊢
  replace hl : lv_has ls 3 [(0, .ref (ad 0)), (1, .int p0)] := hl
  refine w_gen (fun Q hQ => ?_)
  refine lv_aload_n hx hb dX10_pass_0 rfl (lv_at hl 0 rfl) ?_
  refine lv_iload_n hx hb dX10_pass_1 rfl (lv_at hl 1 rfl) ?_
  refine lv_iconst (v := 1) hx hb dX10_pass_2 (by decide) ?_
  refine lv_bipush (v := 60) hx hb dX10_pass_3 (by decide) ?_
  obtain ⟨y1, hc2, h⟩ := gx_bind h
  refine cc_iS (As := [.int p0, .int (1 : Int32), .int (60 : Int32)]) (rest := [.ref (ad 0)]) ⟨hx, hb, hml, hown, hts⟩ (k_X10_isIn l D cI cZ ad u p0 (1 : Int32) (60 : Int32) hc2) (va_cwS 3 hts (gwS mw_860 mw_861 mw_59 mw_862) rfl rfl rfl (by decide +kernel) ⟨Nat.le_of_ble_eq_true rfl, Nat.le_of_ble_eq_true rfl⟩) hK hP hD hS hA hZ rfl hl.1 rfl (Nat.le_of_ble_eq_true rfl) dX10_pass_5 ⟨Nat.zero_le _, Nat.zero_le _⟩ (fun H locs hP hD hS => ?_)
  obtain ⟨j32_3, ej32_3, h⟩ := gx_let h
  have hj32_3 : ∀ (z0_32 : Int32) (H : Heap) (locs : List Loc) (ls : Array Slot), j32_3 z0_32 = some (r, w') → va_P D vwCl (wM cI cZ ad u) H → va_D A (wM cI cZ ad u) → va_S A s.heap H locs → lv_has ls 3 [(0, .ref (ad 0)), (1, .int p0)] → W p l e rX10_pass s m ([.ref (ad 0), .int p0] : List Value).toArray below meth c H locs 0 0 Q (F0 m 32 ls [.int z0_32, .ref (ad 0)]) := by
    intro z0_32 H locs ls h hP hD hS hl
    subst ej32_3
    obtain ⟨y4, hc5, h⟩ := gx_bind h
    refine cc_iV (As := [.int z0_32]) (rest := []) ⟨hx, hb, hml, hown, hts⟩ (k_X10_holds l D cI cZ ad u z0_32 hc5) (cwV 1 hts (gwV mw_976 mw_978 mw_24 mw_59 mw_979) rfl rfl rfl (by decide +kernel) ⟨Nat.le_of_ble_eq_true rfl, Nat.le_of_ble_eq_true rfl⟩) hK hP hD hS hA hZ (ci := 10) (q0 := 0) rfl rfl rfl hl.1 rfl (Nat.le_of_ble_eq_true rfl) dX10_pass_32 ⟨Nat.zero_le _, Nat.zero_le _⟩ (fun H locs hP hD hS => ?_)
    refine lv_if_ne (tgt := 40) hx hb dX10_pass_35 (by decide) (fun c6 => ?_) (fun c6 => ?_)
    · replace h := gx_f c6 h
      refine lv_iconst (v := 0) hx hb dX10_pass_40 (by decide) ?_
      refine lv_istore_n (lv' := [(2, .int (0 : Int32)), (0, .ref (ad 0)), (1, .int p0)]) hx hb dX10_pass_41 rfl hl (by decide) rfl (fun ls hl => ?_)
      have hL42 : ∀ (k : MS → Option (Int32 × MS)) (hk : ∀ (w42 : MS) (H : Heap) (locs : List Loc) (ls : Array Slot), k w42 = some (r, w') → va_P D vwCl (wM cI cZ ad w42) H → va_D A (wM cI cZ ad w42) → va_S A s.heap H locs → lv_has ls 3 [(0, .ref (ad 0))] → W p l e rX10_pass s m ([.ref (ad 0), .int p0] : List Value).toArray below meth c H locs 0 0 Q (F0 m 57 ls [])) (n : Nat) (x2_42 : Int32) (w42 : MS) (H : Heap) (locs : List Loc) (ls : Array Slot), lp_X10_pass_42 p0 k n x2_42 w42 = some (r, w') → va_P D vwCl (wM cI cZ ad w42) H → va_D A (wM cI cZ ad w42) → va_S A s.heap H locs → lv_has ls 3 [(0, .ref (ad 0)), (1, .int p0), (2, .int x2_42)] → W p l e rX10_pass s m ([.ref (ad 0), .int p0] : List Value).toArray below meth c H locs 0 0 Q (F0 m 42 ls []) := by
        intro k hk n
        induction n with
        | zero =>
          intro x2_42 w42 H locs ls h
          rw [lp_X10_pass_42] at h
          cases h
        | succ n ih =>
          intro x2_42 w42 H locs ls h hP hD hS hl
          rw [lp_X10_pass_42] at h
          refine lv_iload_n hx hb dX10_pass_42 rfl (lv_at hl 2 rfl) ?_
          refine lv_iload_n hx hb dX10_pass_43 rfl (lv_at hl 1 rfl) ?_
          refine lv_icmp_ge (tgt := 57) hx hb dX10_pass_44 (by decide) (fun c7 => ?_) (fun c7 => ?_)
          · replace h := gx_t c7 h
            exact hk w42 _ _ _ h hP hD hS (lv_sub hl [0] rfl)
          · replace h := gx_f c7 h
            refine lv_aload_n hx hb dX10_pass_47 rfl (lv_at hl 0 rfl) ?_
            obtain ⟨y8, hc9, h⟩ := gx_bind h
            refine cc_vV (As := []) (rest := []) ⟨hx, hb, hml, hown, hts⟩ (k_X10_minute l D cI cZ ad w42 hc9) (cwV 0 hts (gwV mw_984 mw_986 mw_25 mw_59 mw_987) rfl rfl rfl (by decide +kernel) ⟨Nat.le_of_ble_eq_true rfl, Nat.le_of_ble_eq_true rfl⟩) hK hP hD hS hA hZ (ci := 10) (q0 := 0) rfl rfl rfl hl.1 rfl (Nat.le_of_ble_eq_true rfl) dX10_pass_48 ⟨Nat.zero_le _, Nat.zero_le _⟩ (fun H locs hP hD hS => ?_)
            obtain ⟨v10, ev10, h⟩ := gx_let h
            refine lv_iinc (v := v10) (lv' := [(2, .int v10), (0, .ref (ad 0)), (1, .int p0)]) hx hb dX10_pass_51 hl (k := 2) rfl (by rw [← ev10]; rfl) (by decide) rfl (fun ls hl => ?_)
            refine lv_goto (tgt := 42) hx hb dX10_pass_54 (by decide) ?_
            exact ih v10 y8 _ _ _ h hP hD hS (lv_sub hl [1, 2, 0] rfl)
      refine hL42 _ (fun w42 H locs ls h hP hD hS hl => ?_) FU (0 : Int32) y4.2 _ _ _ h hP hD hS (lv_sub hl [1, 2, 0] rfl)
      refine lv_aload_n hx hb dX10_pass_57 rfl (lv_at hl 0 rfl) ?_
      refine va_get (D := D) (ci := 10) (v := .int (m_now w42)) (C := RX10) (T := TX10) (N := 32) hx hb hts iX10 hown hK hP 0 rfl rfl 1 (by decide) hf95 (fun _ h9 => h9) rfl dX10_pass_58 ?_
      cases h
      exact cc_ret hx hb hr rfl hQ hK hP hD hS rfl dX10_pass_61 hlocks
    · replace h := gx_t c6 h
      refine lv_iconst (v := 0) hx hb dX10_pass_38 (by decide) ?_
      cases h
      exact cc_ret hx hb hr rfl hQ hK hP hD hS rfl dX10_pass_39 hlocks
  refine lv_if_ne (tgt := 15) hx hb dX10_pass_8 (by decide) (fun c11 => ?_) (fun c11 => ?_)
  · replace h := gx_f c11 h
    refine lv_aload_n hx hb dX10_pass_15 rfl (lv_at hl 0 rfl) ?_
    refine va_get (D := D) (ci := 10) (v := .int (m_now u)) (C := RX10) (T := TX10) (N := 32) hx hb hts iX10 hown hK hP 0 rfl rfl 1 (by decide) hf95 (fun _ h9 => h9) rfl dX10_pass_16 ?_
    refine lv_iload_n hx hb dX10_pass_19 rfl (lv_at hl 1 rfl) ?_
    refine lv_iadd hx hb dX10_pass_20 ?_
    refine lv_sipush (v := 600) hx hb dX10_pass_21 (by decide) ?_
    refine lv_icmp_le (tgt := 31) hx hb dX10_pass_24 (by decide) (fun c12 => ?_) (fun c12 => ?_)
    · replace h := gx_t c12 h
      refine lv_iconst (v := 0) hx hb dX10_pass_31 (by decide) ?_
      exact hj32_3 (0 : Int32) _ _ _ h hP hD hS (lv_sub hl [0, 1] rfl)
    · replace h := gx_f c12 h
      refine lv_iconst (v := 2) hx hb dX10_pass_27 (by decide) ?_
      refine lv_goto (tgt := 32) hx hb dX10_pass_28 (by decide) ?_
      exact hj32_3 (2 : Int32) _ _ _ h hP hD hS (lv_sub hl [0, 1] rfl)
  · replace h := gx_t c11 h
    refine lv_iconst (v := 1) hx hb dX10_pass_11 (by decide) ?_
    refine lv_goto (tgt := 32) hx hb dX10_pass_12 (by decide) ?_
    exact hj32_3 (1 : Int32) _ _ _ h hP hD hS (lv_sub hl [0, 1] rfl)

def rX10_holds_ : Room := { frames := 3, cells := 0, slots := 0, locals := 63 }
set_option maxHeartbeats 4000000 in
set_option maxRecDepth 100000 in
theorem k_X10_holds_ (l : Launch) (D : va_G) (cI cZ : ClassId) (ad : Nat → Nat) (u : MS) (p0 : Int32) (p1 : Int32) {r : Int32} {w' : MS} (h : g_X10_holds_ u p0 p1 = some (r, w')) : MI l yX10_holds_ (wm yX10_holds_ cX10_holds_ 3 (some .int)) rX10_holds_ D [(cI, .int), (cZ, .boolean)] (wM cI cZ ad u) (wM cI cZ ad w') [.ref (ad 0), .int p0, .int p1] r := by
  intro sz
  refine Met.ofW (cc := cX10_holds_) (maxL := 3) (ret := (some .int)) (by decide) rfl ?_
  intro p e s m args below meth c s₁ B hml hv
  obtain ⟨rfl, hsz, hP, hK, hD0, hZ⟩ := hv
  have hx := B.exec
  have hb := B.bytes
  have hr := B.returns
  have hts : ∀ w ∈ Wall, w.before _ s = true := fun w hw => atoms_spec (ws := wm yX10_holds_ cX10_holds_ 3 (some .int)) B.pre w (List.mem_cons_of_mem _ hw)
  have hown : s.vm.findClass RX10 = some m.cls := findClass_of_methodNamed B.named
  have hlocks := B.notSynchronized
  subst hsz
  have hD := hD0.self (sz := s.heap.size)
  generalize hAe : va_A (wM cI cZ ad u) s.heap.size = A at hD hZ ⊢
  have hA : ∀ q : Nat, s.heap.size ≤ q → A q := fun q h => by rw [← hAe]; exact Or.inr h
  have hS : va_S A s.heap s.heap [] := va_S.rf
  have hf7 := hts _ mw_877
  have hl := lv_entry ([.ref (ad 0), .int p0, .int p1]) (n := 3) (Nat.le_of_ble_eq_true rfl)
  rw [lg_entry_eq]
  generalize (lg_sl ([.ref (ad 0), .int p0, .int p1]) ++ List.replicate (3 - (lg_sl ([.ref (ad 0), .int p0, .int p1])).length) Slot.unset).toArray = ls at hl ⊢
  replace hl : lv_has ls 3 [(0, .ref (ad 0)), (1, .int p0), (2, .int p1)] := hl
  refine w_gen (fun Q hQ => ?_)
  refine lv_aload_n hx hb dX10_holds__0 rfl (lv_at hl 0 rfl) ?_
  refine lv_iload_n hx hb dX10_holds__1 rfl (lv_at hl 1 rfl) ?_
  refine lv_iload_n hx hb dX10_holds__2 rfl (lv_at hl 2 rfl) ?_
  obtain ⟨y1, hc2, h⟩ := gx_bind h
  refine cc_iS (As := [.int p0, .int p1]) (rest := [.ref (ad 0)]) ⟨hx, hb, hml, hown, hts⟩ (k_X10_isPlace l D cI cZ ad u p0 p1 hc2) (va_cwS 2 hts (gwS mw_1036 mw_1037 mw_59 mw_1038) rfl rfl rfl (by decide +kernel) ⟨Nat.le_of_ble_eq_true rfl, Nat.le_of_ble_eq_true rfl⟩) hK hP hD hS hA hZ rfl hl.1 rfl (Nat.le_of_ble_eq_true rfl) dX10_holds__3 ⟨Nat.zero_le _, Nat.zero_le _⟩ (fun H locs hP hD hS => ?_)
  obtain ⟨j14_3, ej14_3, h⟩ := gx_let h
  have hj14_3 : ∀ (z0_14 : Int32) (H : Heap) (locs : List Loc) (ls : Array Slot), j14_3 z0_14 = some (r, w') → va_P D vwCl (wM cI cZ ad u) H → va_D A (wM cI cZ ad u) → va_S A s.heap H locs → lv_has ls 3 [(0, .ref (ad 0)), (1, .int p0), (2, .int p1)] → W p l e rX10_holds_ s m ([.ref (ad 0), .int p0, .int p1] : List Value).toArray below meth c H locs 0 0 Q (F0 m 14 ls [.int z0_14, .ref (ad 0)]) := by
    intro z0_14 H locs ls h hP hD hS hl
    subst ej14_3
    obtain ⟨y4, hc5, h⟩ := gx_bind h
    refine cc_iV (As := [.int z0_14]) (rest := []) ⟨hx, hb, hml, hown, hts⟩ (k_X10_holds l D cI cZ ad u z0_14 hc5) (cwV 1 hts (gwV mw_976 mw_978 mw_24 mw_59 mw_979) rfl rfl rfl (by decide +kernel) ⟨Nat.le_of_ble_eq_true rfl, Nat.le_of_ble_eq_true rfl⟩) hK hP hD hS hA hZ (ci := 10) (q0 := 0) rfl rfl rfl hl.1 rfl (Nat.le_of_ble_eq_true rfl) dX10_holds__14 ⟨Nat.zero_le _, Nat.zero_le _⟩ (fun H locs hP hD hS => ?_)
    refine lv_if_eq (tgt := 33) hx hb dX10_holds__17 (by decide) (fun c6 => ?_) (fun c6 => ?_)
    · replace h := gx_t c6 h
      refine lv_iconst (v := 0) hx hb dX10_holds__33 (by decide) ?_
      cases h
      exact cc_ret hx hb hr rfl hQ hK hP hD hS rfl dX10_holds__34 hlocks
    · replace h := gx_f c6 h
      refine lv_aload_n hx hb dX10_holds__20 rfl (lv_at hl 0 rfl) ?_
      refine va_get (D := D) (ci := 10) (v := .ref (ad 1)) (C := RX10) (T := TX10) (N := 32) hx hb hts iX10 hown hK hP 0 rfl rfl 6 (by decide) hf7 (fun _ h9 => h9) rfl dX10_holds__21 ?_
      refine lv_iconst (v := 4) hx hb dX10_holds__24 (by decide) ?_
      refine lv_iload_n hx hb dX10_holds__25 rfl (lv_at hl 1 rfl) ?_
      refine lv_imul hx hb dX10_holds__26 ?_
      refine lv_iload_n hx hb dX10_holds__27 rfl (lv_at hl 2 rfl) ?_
      refine lv_iadd hx hb dX10_holds__28 ?_
      obtain ⟨b7, h⟩ := gx_in h
      refine va_iald (D := D) hx hb hK hP 1 0 rfl rfl b7 dX10_holds__29 ?_
      refine lv_goto (tgt := 34) hx hb dX10_holds__30 (by decide) ?_
      cases h
      exact cc_ret hx hb hr rfl hQ hK hP hD hS rfl dX10_holds__34 hlocks
  refine lv_if_eq (tgt := 13) hx hb dX10_holds__6 (by decide) (fun c8 => ?_) (fun c8 => ?_)
  · replace h := gx_t c8 h
    refine lv_iconst (v := 1) hx hb dX10_holds__13 (by decide) ?_
    exact hj14_3 (1 : Int32) _ _ _ h hP hD hS (lv_sub hl [0, 1, 2] rfl)
  · replace h := gx_f c8 h
    refine lv_iconst (v := 0) hx hb dX10_holds__9 (by decide) ?_
    refine lv_goto (tgt := 14) hx hb dX10_holds__10 (by decide) ?_
    exact hj14_3 (0 : Int32) _ _ _ h hP hD hS (lv_sub hl [0, 1, 2] rfl)

def rX10_vehicles : Room := { frames := 1, cells := 0, slots := 0, locals := 22 }
set_option maxHeartbeats 4000000 in
set_option maxRecDepth 100000 in
theorem k_X10_vehicles (l : Launch) (D : va_G) (cI cZ : ClassId) (ad : Nat → Nat) (u : MS) (p0 : Int32) {r : Int32} {w' : MS} (h : g_X10_vehicles u p0 = some (r, w')) : MI l yX10_vehicles (wm yX10_vehicles cX10_vehicles 4 (some .int)) rX10_vehicles D [(cI, .int), (cZ, .boolean)] (wM cI cZ ad u) (wM cI cZ ad w') [.ref (ad 0), .int p0] r := by
  intro sz
  refine Met.ofW (cc := cX10_vehicles) (maxL := 4) (ret := (some .int)) (by decide) rfl ?_
  intro p e s m args below meth c s₁ B hml hv
  obtain ⟨rfl, hsz, hP, hK, hD0, hZ⟩ := hv
  have hx := B.exec
  have hb := B.bytes
  have hr := B.returns
  have hts : ∀ w ∈ Wall, w.before _ s = true := fun w hw => atoms_spec (ws := wm yX10_vehicles cX10_vehicles 4 (some .int)) B.pre w (List.mem_cons_of_mem _ hw)
  have hown : s.vm.findClass RX10 = some m.cls := findClass_of_methodNamed B.named
  have hlocks := B.notSynchronized
  subst hsz
  have hD := hD0.self (sz := s.heap.size)
  generalize hAe : va_A (wM cI cZ ad u) s.heap.size = A at hD hZ ⊢
  have hA : ∀ q : Nat, s.heap.size ≤ q → A q := fun q h => by rw [← hAe]; exact Or.inr h
  have hS : va_S A s.heap s.heap [] := va_S.rf
  have hf7 := hts _ mw_877
  have hf127 := hts _ mw_876
  have hf136 := hts _ mw_875
  have hf130 := hts _ mw_874
  have hl := lv_entry ([.ref (ad 0), .int p0]) (n := 4) (Nat.le_of_ble_eq_true rfl)
  rw [lg_entry_eq]
  generalize (lg_sl ([.ref (ad 0), .int p0]) ++ List.replicate (4 - (lg_sl ([.ref (ad 0), .int p0])).length) Slot.unset).toArray = ls at hl ⊢
  replace hl : lv_has ls 4 [(0, .ref (ad 0)), (1, .int p0)] := hl
  refine w_gen (fun Q hQ => ?_)
  refine lv_aload_n hx hb dX10_vehicles_0 rfl (lv_at hl 0 rfl) ?_
  refine lv_iload_n hx hb dX10_vehicles_1 rfl (lv_at hl 1 rfl) ?_
  refine lv_iconst (v := 0) hx hb dX10_vehicles_2 (by decide) ?_
  refine lv_iconst (v := 3) hx hb dX10_vehicles_3 (by decide) ?_
  obtain ⟨y1, hc2, h⟩ := gx_bind h
  refine cc_iS (As := [.int p0, .int (0 : Int32), .int (3 : Int32)]) (rest := [.ref (ad 0)]) ⟨hx, hb, hml, hown, hts⟩ (k_X10_isIn l D cI cZ ad u p0 (0 : Int32) (3 : Int32) hc2) (va_cwS 3 hts (gwS mw_860 mw_861 mw_59 mw_862) rfl rfl rfl (by decide +kernel) ⟨Nat.le_of_ble_eq_true rfl, Nat.le_of_ble_eq_true rfl⟩) hK hP hD hS hA hZ rfl hl.1 rfl (Nat.le_of_ble_eq_true rfl) dX10_vehicles_4 ⟨Nat.zero_le _, Nat.zero_le _⟩ (fun H locs hP hD hS => ?_)
  obtain ⟨j15_3, ej15_3, h⟩ := gx_let h
  have hj15_3 : ∀ (z0_15 : Int32) (H : Heap) (locs : List Loc) (ls : Array Slot), j15_3 z0_15 = some (r, w') → va_P D vwCl (wM cI cZ ad u) H → va_D A (wM cI cZ ad u) → va_S A s.heap H locs → lv_has ls 4 [(0, .ref (ad 0)), (1, .int p0)] → W p l e rX10_vehicles s m ([.ref (ad 0), .int p0] : List Value).toArray below meth c H locs 0 0 Q (F0 m 15 ls [.int z0_15, .ref (ad 0)]) := by
    intro z0_15 H locs ls h hP hD hS hl
    subst ej15_3
    obtain ⟨y4, hc5, h⟩ := gx_bind h
    refine cc_iV (As := [.int z0_15]) (rest := []) ⟨hx, hb, hml, hown, hts⟩ (k_X10_holds l D cI cZ ad u z0_15 hc5) (cwV 1 hts (gwV mw_976 mw_978 mw_24 mw_59 mw_979) rfl rfl rfl (by decide +kernel) ⟨Nat.le_of_ble_eq_true rfl, Nat.le_of_ble_eq_true rfl⟩) hK hP hD hS hA hZ (ci := 10) (q0 := 0) rfl rfl rfl hl.1 rfl (Nat.le_of_ble_eq_true rfl) dX10_vehicles_15 ⟨Nat.zero_le _, Nat.zero_le _⟩ (fun H locs hP hD hS => ?_)
    refine lv_if_ne (tgt := 23) hx hb dX10_vehicles_18 (by decide) (fun c6 => ?_) (fun c6 => ?_)
    · replace h := gx_f c6 h
      refine lv_iconst (v := 0) hx hb dX10_vehicles_23 (by decide) ?_
      refine lv_istore_n (lv' := [(2, .int (0 : Int32)), (0, .ref (ad 0)), (1, .int p0)]) hx hb dX10_vehicles_24 rfl hl (by decide) rfl (fun ls hl => ?_)
      refine lv_iconst (v := 0) hx hb dX10_vehicles_25 (by decide) ?_
      refine lv_istore_n (lv' := [(3, .int (0 : Int32)), (2, .int (0 : Int32)), (0, .ref (ad 0)), (1, .int p0)]) hx hb dX10_vehicles_26 rfl hl (by decide) rfl (fun ls hl => ?_)
      have hL27 : ∀ (k : Int32 → Option (Int32 × MS)) (hk : ∀ (x2_27 : Int32) (H : Heap) (locs : List Loc) (ls : Array Slot), k x2_27 = some (r, w') → va_P D vwCl (wM cI cZ ad y4.2) H → va_D A (wM cI cZ ad y4.2) → va_S A s.heap H locs → lv_has ls 4 [(0, .ref (ad 0)), (1, .int p0), (2, .int x2_27)] → W p l e rX10_vehicles s m ([.ref (ad 0), .int p0] : List Value).toArray below meth c H locs 0 0 Q (F0 m 48 ls [])) (n : Nat) (x2_27 : Int32) (x3_27 : Int32) (H : Heap) (locs : List Loc) (ls : Array Slot), lp_X10_vehicles_27 y4 k n x2_27 x3_27 = some (r, w') → va_P D vwCl (wM cI cZ ad y4.2) H → va_D A (wM cI cZ ad y4.2) → va_S A s.heap H locs → lv_has ls 4 [(0, .ref (ad 0)), (1, .int p0), (2, .int x2_27), (3, .int x3_27)] → W p l e rX10_vehicles s m ([.ref (ad 0), .int p0] : List Value).toArray below meth c H locs 0 0 Q (F0 m 27 ls []) := by
        intro k hk n
        induction n with
        | zero =>
          intro x2_27 x3_27 H locs ls h
          rw [lp_X10_vehicles_27] at h
          cases h
        | succ n ih =>
          intro x2_27 x3_27 H locs ls h hP hD hS hl
          rw [lp_X10_vehicles_27] at h
          refine lv_iload_n hx hb dX10_vehicles_27 rfl (lv_at hl 3 rfl) ?_
          refine lv_bipush (v := 48) hx hb dX10_vehicles_28 (by decide) ?_
          refine lv_icmp_ge (tgt := 48) hx hb dX10_vehicles_30 (by decide) (fun c7 => ?_) (fun c7 => ?_)
          · replace h := gx_t c7 h
            exact hk x2_27 _ _ _ h hP hD hS (lv_sub hl [0, 1, 2] rfl)
          · replace h := gx_f c7 h
            refine lv_iload_n hx hb dX10_vehicles_33 rfl (lv_at hl 2 rfl) ?_
            refine lv_aload_n hx hb dX10_vehicles_34 rfl (lv_at hl 0 rfl) ?_
            refine va_get (D := D) (ci := 10) (v := .ref (ad 1)) (C := RX10) (T := TX10) (N := 32) hx hb hts iX10 hown hK hP 0 rfl rfl 6 (by decide) hf7 (fun _ h9 => h9) rfl dX10_vehicles_35 ?_
            refine lv_iload_n hx hb dX10_vehicles_38 rfl (lv_at hl 3 rfl) ?_
            obtain ⟨b8, h⟩ := gx_in h
            refine va_iald (D := D) hx hb hK hP 1 0 rfl rfl b8 dX10_vehicles_39 ?_
            refine lv_iadd hx hb dX10_vehicles_40 ?_
            obtain ⟨v9, ev9, h⟩ := gx_let h
            refine lv_topn ev9 ?_
            refine lv_istore_n (lv' := [(2, .int v9), (0, .ref (ad 0)), (1, .int p0), (3, .int x3_27)]) hx hb dX10_vehicles_41 rfl hl (by decide) rfl (fun ls hl => ?_)
            obtain ⟨v10, ev10, h⟩ := gx_let h
            refine lv_iinc (v := v10) (lv' := [(3, .int v10), (2, .int v9), (0, .ref (ad 0)), (1, .int p0)]) hx hb dX10_vehicles_42 hl (k := 3) rfl (by rw [← ev10]; rfl) (by decide) rfl (fun ls hl => ?_)
            refine lv_goto (tgt := 27) hx hb dX10_vehicles_45 (by decide) ?_
            exact ih v9 v10 _ _ _ h hP hD hS (lv_sub hl [2, 3, 1, 0] rfl)
      refine hL27 _ (fun x2_27 H locs ls h hP hD hS hl => ?_) FU (0 : Int32) (0 : Int32) _ _ _ h hP hD hS (lv_sub hl [2, 3, 1, 0] rfl)
      refine lv_iload_n hx hb dX10_vehicles_48 rfl (lv_at hl 1 rfl) ?_
      refine lv_if_ne (tgt := 59) hx hb dX10_vehicles_49 (by decide) (fun c11 => ?_) (fun c11 => ?_)
      · replace h := gx_f c11 h
        refine lv_iload_n hx hb dX10_vehicles_59 rfl (lv_at hl 1 rfl) ?_
        refine lv_iconst (v := 1) hx hb dX10_vehicles_60 (by decide) ?_
        refine lv_icmp_ne (tgt := 68) hx hb dX10_vehicles_61 (by decide) (fun c12 => ?_) (fun c12 => ?_)
        · replace h := gx_f c12 h
          refine lv_iload_n hx hb dX10_vehicles_68 rfl (lv_at hl 1 rfl) ?_
          refine lv_iconst (v := 2) hx hb dX10_vehicles_69 (by decide) ?_
          refine lv_icmp_ne (tgt := 80) hx hb dX10_vehicles_70 (by decide) (fun c13 => ?_) (fun c13 => ?_)
          · replace h := gx_f c13 h
            refine lv_aload_n hx hb dX10_vehicles_80 rfl (lv_at hl 0 rfl) ?_
            refine va_get (D := D) (ci := 10) (v := .int (mT_gone y4.2)) (C := RX10) (T := TX10) (N := 32) hx hb hts iX10 hown hK hP 0 rfl rfl 5 (by decide) hf127 (fun _ h9 => h9) rfl dX10_vehicles_81 ?_
            cases h
            exact cc_ret hx hb hr rfl hQ hK hP hD hS rfl dX10_vehicles_84 hlocks
          · replace h := gx_t c13 h
            refine lv_aload_n hx hb dX10_vehicles_73 rfl (lv_at hl 0 rfl) ?_
            refine va_get (D := D) (ci := 10) (v := .int (mT_waiting y4.2)) (C := RX10) (T := TX10) (N := 32) hx hb hts iX10 hown hK hP 0 rfl rfl 4 (by decide) hf136 (fun _ h9 => h9) rfl dX10_vehicles_74 ?_
            refine lv_goto (tgt := 84) hx hb dX10_vehicles_77 (by decide) ?_
            cases h
            exact cc_ret hx hb hr rfl hQ hK hP hD hS rfl dX10_vehicles_84 hlocks
        · replace h := gx_t c12 h
          refine lv_iload_n hx hb dX10_vehicles_64 rfl (lv_at hl 2 rfl) ?_
          refine lv_goto (tgt := 84) hx hb dX10_vehicles_65 (by decide) ?_
          cases h
          exact cc_ret hx hb hr rfl hQ hK hP hD hS rfl dX10_vehicles_84 hlocks
      · replace h := gx_t c11 h
        refine lv_aload_n hx hb dX10_vehicles_52 rfl (lv_at hl 0 rfl) ?_
        refine va_get (D := D) (ci := 10) (v := .int (mT_came y4.2)) (C := RX10) (T := TX10) (N := 32) hx hb hts iX10 hown hK hP 0 rfl rfl 3 (by decide) hf130 (fun _ h9 => h9) rfl dX10_vehicles_53 ?_
        refine lv_goto (tgt := 84) hx hb dX10_vehicles_56 (by decide) ?_
        cases h
        exact cc_ret hx hb hr rfl hQ hK hP hD hS rfl dX10_vehicles_84 hlocks
    · replace h := gx_t c6 h
      refine lv_iconst (v := 0) hx hb dX10_vehicles_21 (by decide) ?_
      cases h
      exact cc_ret hx hb hr rfl hQ hK hP hD hS rfl dX10_vehicles_22 hlocks
  refine lv_if_eq (tgt := 14) hx hb dX10_vehicles_7 (by decide) (fun c14 => ?_) (fun c14 => ?_)
  · replace h := gx_t c14 h
    refine lv_iconst (v := 1) hx hb dX10_vehicles_14 (by decide) ?_
    exact hj15_3 (1 : Int32) _ _ _ h hP hD hS (lv_sub hl [0, 1] rfl)
  · replace h := gx_f c14 h
    refine lv_iconst (v := 0) hx hb dX10_vehicles_10 (by decide) ?_
    refine lv_goto (tgt := 15) hx hb dX10_vehicles_11 (by decide) ?_
    exact hj15_3 (0 : Int32) _ _ _ h hP hD hS (lv_sub hl [0, 1] rfl)

def rX10_section : Room := { frames := 4, cells := 0, slots := 0, locals := 92 }
set_option maxHeartbeats 4000000 in
set_option maxRecDepth 100000 in
theorem k_X10_section (l : Launch) (D : va_G) (cI cZ : ClassId) (ad : Nat → Nat) (u : MS) (p0 : Int32) (p1 : Int32) {r : Int32} {w' : MS} (h : g_X10_section u p0 p1 = some (r, w')) : MI l yX10_section (wm yX10_section cX10_section 3 (some .int)) rX10_section D [(cI, .int), (cZ, .boolean)] (wM cI cZ ad u) (wM cI cZ ad w') [.ref (ad 0), .int p0, .int p1] r := by
  intro sz
  refine Met.ofW (cc := cX10_section) (maxL := 3) (ret := (some .int)) (by decide) rfl ?_
  intro p e s m args below meth c s₁ B hml hv
  obtain ⟨rfl, hsz, hP, hK, hD0, hZ⟩ := hv
  have hx := B.exec
  have hb := B.bytes
  have hr := B.returns
  have hts : ∀ w ∈ Wall, w.before _ s = true := fun w hw => atoms_spec (ws := wm yX10_section cX10_section 3 (some .int)) B.pre w (List.mem_cons_of_mem _ hw)
  have hown : s.vm.findClass RX10 = some m.cls := findClass_of_methodNamed B.named
  have hlocks := B.notSynchronized
  subst hsz
  have hD := hD0.self (sz := s.heap.size)
  generalize hAe : va_A (wM cI cZ ad u) s.heap.size = A at hD hZ ⊢
  have hA : ∀ q : Nat, s.heap.size ≤ q → A q := fun q h => by rw [← hAe]; exact Or.inr h
  have hS : va_S A s.heap s.heap [] := va_S.rf
  have hf20 := hts _ mw_880
  have hf32 := hts _ mw_884
  have hf41 := hts _ mw_887
  have hl := lv_entry ([.ref (ad 0), .int p0, .int p1]) (n := 3) (Nat.le_of_ble_eq_true rfl)
  rw [lg_entry_eq]
  generalize (lg_sl ([.ref (ad 0), .int p0, .int p1]) ++ List.replicate (3 - (lg_sl ([.ref (ad 0), .int p0, .int p1])).length) Slot.unset).toArray = ls at hl ⊢
  replace hl : lv_has ls 3 [(0, .ref (ad 0)), (1, .int p0), (2, .int p1)] := hl
  refine w_gen (fun Q hQ => ?_)
  refine lv_aload_n hx hb dX10_section_0 rfl (lv_at hl 0 rfl) ?_
  refine lv_iload_n hx hb dX10_section_1 rfl (lv_at hl 1 rfl) ?_
  obtain ⟨y1, hc2, h⟩ := gx_bind h
  refine cc_iS (As := [.int p0]) (rest := [.ref (ad 0)]) ⟨hx, hb, hml, hown, hts⟩ (k_X10_isSection l D cI cZ ad u p0 hc2) (va_cwS 1 hts (gwS mw_1039 mw_1040 mw_59 mw_1041) rfl rfl rfl (by decide +kernel) ⟨Nat.le_of_ble_eq_true rfl, Nat.le_of_ble_eq_true rfl⟩) hK hP hD hS hA hZ rfl hl.1 rfl (Nat.le_of_ble_eq_true rfl) dX10_section_2 ⟨Nat.zero_le _, Nat.zero_le _⟩ (fun H locs hP hD hS => ?_)
  obtain ⟨j26_3, ej26_3, h⟩ := gx_let h
  have hj26_3 : ∀ (z0_26 : Int32) (H : Heap) (locs : List Loc) (ls : Array Slot), j26_3 z0_26 = some (r, w') → va_P D vwCl (wM cI cZ ad u) H → va_D A (wM cI cZ ad u) → va_S A s.heap H locs → lv_has ls 3 [(0, .ref (ad 0)), (1, .int p0), (2, .int p1)] → W p l e rX10_section s m ([.ref (ad 0), .int p0, .int p1] : List Value).toArray below meth c H locs 0 0 Q (F0 m 26 ls [.int z0_26, .ref (ad 0)]) := by
    intro z0_26 H locs ls h hP hD hS hl
    subst ej26_3
    obtain ⟨y4, hc5, h⟩ := gx_bind h
    refine cc_iV (As := [.int z0_26]) (rest := []) ⟨hx, hb, hml, hown, hts⟩ (k_X10_holds l D cI cZ ad u z0_26 hc5) (cwV 1 hts (gwV mw_976 mw_978 mw_24 mw_59 mw_979) rfl rfl rfl (by decide +kernel) ⟨Nat.le_of_ble_eq_true rfl, Nat.le_of_ble_eq_true rfl⟩) hK hP hD hS hA hZ (ci := 10) (q0 := 0) rfl rfl rfl hl.1 rfl (Nat.le_of_ble_eq_true rfl) dX10_section_26 ⟨Nat.zero_le _, Nat.zero_le _⟩ (fun H locs hP hD hS => ?_)
    refine lv_if_ne (tgt := 34) hx hb dX10_section_29 (by decide) (fun c6 => ?_) (fun c6 => ?_)
    · replace h := gx_f c6 h
      refine lv_iload_n hx hb dX10_section_34 rfl (lv_at hl 2 rfl) ?_
      refine lv_iconst (v := 3) hx hb dX10_section_35 (by decide) ?_
      refine lv_icmp_ge (tgt := 70) hx hb dX10_section_36 (by decide) (fun c7 => ?_) (fun c7 => ?_)
      · replace h := gx_t c7 h
        refine lv_iload_n hx hb dX10_section_70 rfl (lv_at hl 2 rfl) ?_
        refine lv_iconst (v := 3) hx hb dX10_section_71 (by decide) ?_
        refine lv_icmp_ne (tgt := 84) hx hb dX10_section_72 (by decide) (fun c8 => ?_) (fun c8 => ?_)
        · replace h := gx_f c8 h
          refine lv_iload_n hx hb dX10_section_84 rfl (lv_at hl 2 rfl) ?_
          refine lv_iconst (v := 5) hx hb dX10_section_85 (by decide) ?_
          refine lv_icmp_ne (tgt := 98) hx hb dX10_section_86 (by decide) (fun c9 => ?_) (fun c9 => ?_)
          · replace h := gx_f c9 h
            refine lv_aload_n hx hb dX10_section_98 rfl (lv_at hl 0 rfl) ?_
            refine va_get (D := D) (ci := 10) (v := .ref (ad 4)) (C := RX10) (T := TX10) (N := 32) hx hb hts iX10 hown hK hP 0 rfl rfl 9 (by decide) hf20 (fun _ h9 => h9) rfl dX10_section_99 ?_
            refine lv_iload_n hx hb dX10_section_102 rfl (lv_at hl 1 rfl) ?_
            obtain ⟨b10, h⟩ := gx_in h
            refine va_zald (D := D) hx hb hK hP 4 1 rfl rfl b10 dX10_section_103 ?_
            refine lv_if_eq (tgt := 111) hx hb dX10_section_104 (by decide) (fun c11 => ?_) (fun c11 => ?_)
            · replace h := gx_t c11 h
              refine lv_iconst (v := 0) hx hb dX10_section_111 (by decide) ?_
              cases h
              exact cc_ret hx hb hr rfl hQ hK hP hD hS rfl dX10_section_112 hlocks
            · replace h := gx_f c11 h
              refine lv_iconst (v := 1) hx hb dX10_section_107 (by decide) ?_
              refine lv_goto (tgt := 112) hx hb dX10_section_108 (by decide) ?_
              cases h
              exact cc_ret hx hb hr rfl hQ hK hP hD hS rfl dX10_section_112 hlocks
          · replace h := gx_t c9 h
            refine lv_aload_n hx hb dX10_section_89 rfl (lv_at hl 0 rfl) ?_
            refine va_get (D := D) (ci := 10) (v := .ref (ad 8)) (C := RX10) (T := TX10) (N := 32) hx hb hts iX10 hown hK hP 0 rfl rfl 13 (by decide) hf32 (fun _ h9 => h9) rfl dX10_section_90 ?_
            refine lv_iload_n hx hb dX10_section_93 rfl (lv_at hl 1 rfl) ?_
            obtain ⟨b12, h⟩ := gx_in h
            refine va_iald (D := D) hx hb hK hP 8 0 rfl rfl b12 dX10_section_94 ?_
            refine lv_goto (tgt := 112) hx hb dX10_section_95 (by decide) ?_
            cases h
            exact cc_ret hx hb hr rfl hQ hK hP hD hS rfl dX10_section_112 hlocks
        · replace h := gx_t c8 h
          refine lv_aload_n hx hb dX10_section_75 rfl (lv_at hl 0 rfl) ?_
          refine va_get (D := D) (ci := 10) (v := .ref (ad 11)) (C := RX10) (T := TX10) (N := 32) hx hb hts iX10 hown hK hP 0 rfl rfl 16 (by decide) hf41 (fun _ h9 => h9) rfl dX10_section_76 ?_
          refine lv_iload_n hx hb dX10_section_79 rfl (lv_at hl 1 rfl) ?_
          obtain ⟨b13, h⟩ := gx_in h
          refine va_iald (D := D) hx hb hK hP 11 0 rfl rfl b13 dX10_section_80 ?_
          refine lv_goto (tgt := 112) hx hb dX10_section_81 (by decide) ?_
          cases h
          exact cc_ret hx hb hr rfl hQ hK hP hD hS rfl dX10_section_112 hlocks
      · replace h := gx_f c7 h
        refine lv_iload_n hx hb dX10_section_39 rfl (lv_at hl 2 rfl) ?_
        refine lv_if_ne (tgt := 51) hx hb dX10_section_40 (by decide) (fun c14 => ?_) (fun c14 => ?_)
        · replace h := gx_f c14 h
          refine lv_iload_n hx hb dX10_section_51 rfl (lv_at hl 2 rfl) ?_
          refine lv_iconst (v := 1) hx hb dX10_section_52 (by decide) ?_
          refine lv_icmp_ne (tgt := 64) hx hb dX10_section_53 (by decide) (fun c15 => ?_) (fun c15 => ?_)
          · replace h := gx_f c15 h
            refine lv_aload_n hx hb dX10_section_64 rfl (lv_at hl 0 rfl) ?_
            refine lv_iload_n hx hb dX10_section_65 rfl (lv_at hl 1 rfl) ?_
            obtain ⟨y16, hc17, h⟩ := gx_bind h
            refine cc_iV (As := [.int p0]) (rest := []) ⟨hx, hb, hml, hown, hts⟩ (k_X10_guessOf l D cI cZ ad y4.2 p0 hc17) (cwV 1 hts (gwV mw_1028 mw_1030 mw_36 mw_59 mw_1031) rfl rfl rfl (by decide +kernel) ⟨Nat.le_of_ble_eq_true rfl, Nat.le_of_ble_eq_true rfl⟩) hK hP hD hS hA hZ (ci := 10) (q0 := 0) rfl rfl rfl hl.1 rfl (Nat.le_of_ble_eq_true rfl) dX10_section_66 ⟨Nat.zero_le _, Nat.zero_le _⟩ (fun H locs hP hD hS => ?_)
            cases h
            exact cc_ret hx hb hr rfl hQ hK hP hD hS rfl dX10_section_69 hlocks
          · replace h := gx_t c15 h
            refine lv_aload_n hx hb dX10_section_56 rfl (lv_at hl 0 rfl) ?_
            refine lv_iload_n hx hb dX10_section_57 rfl (lv_at hl 1 rfl) ?_
            obtain ⟨y18, hc19, h⟩ := gx_bind h
            refine cc_iV (As := [.int p0]) (rest := []) ⟨hx, hb, hml, hown, hts⟩ (k_X10_beliefOf l D cI cZ ad y4.2 p0 hc19) (cwV 1 hts (gwV mw_1020 mw_1022 mw_34 mw_59 mw_1023) rfl rfl rfl (by decide +kernel) ⟨Nat.le_of_ble_eq_true rfl, Nat.le_of_ble_eq_true rfl⟩) hK hP hD hS hA hZ (ci := 10) (q0 := 0) rfl rfl rfl hl.1 rfl (Nat.le_of_ble_eq_true rfl) dX10_section_58 ⟨Nat.zero_le _, Nat.zero_le _⟩ (fun H locs hP hD hS => ?_)
            refine lv_goto (tgt := 69) hx hb dX10_section_61 (by decide) ?_
            cases h
            exact cc_ret hx hb hr rfl hQ hK hP hD hS rfl dX10_section_69 hlocks
        · replace h := gx_t c14 h
          refine lv_aload_n hx hb dX10_section_43 rfl (lv_at hl 0 rfl) ?_
          refine lv_iload_n hx hb dX10_section_44 rfl (lv_at hl 1 rfl) ?_
          obtain ⟨y20, hc21, h⟩ := gx_bind h
          refine cc_iV (As := [.int p0]) (rest := []) ⟨hx, hb, hml, hown, hts⟩ (k_X10_speedOf l D cI cZ ad y4.2 p0 hc21) (cwV 1 hts (gwV mw_1024 mw_1026 mw_35 mw_59 mw_1027) rfl rfl rfl (by decide +kernel) ⟨Nat.le_of_ble_eq_true rfl, Nat.le_of_ble_eq_true rfl⟩) hK hP hD hS hA hZ (ci := 10) (q0 := 0) rfl rfl rfl hl.1 rfl (Nat.le_of_ble_eq_true rfl) dX10_section_45 ⟨Nat.zero_le _, Nat.zero_le _⟩ (fun H locs hP hD hS => ?_)
          refine lv_goto (tgt := 69) hx hb dX10_section_48 (by decide) ?_
          cases h
          exact cc_ret hx hb hr rfl hQ hK hP hD hS rfl dX10_section_69 hlocks
    · replace h := gx_t c6 h
      refine lv_iconst (v := 0) hx hb dX10_section_32 (by decide) ?_
      cases h
      exact cc_ret hx hb hr rfl hQ hK hP hD hS rfl dX10_section_33 hlocks
  refine lv_if_ne (tgt := 12) hx hb dX10_section_5 (by decide) (fun c22 => ?_) (fun c22 => ?_)
  · replace h := gx_f c22 h
    refine lv_iload_n hx hb dX10_section_12 rfl (lv_at hl 2 rfl) ?_
    refine lv_iconst (v := 0) hx hb dX10_section_13 (by decide) ?_
    refine lv_iconst (v := 5) hx hb dX10_section_14 (by decide) ?_
    obtain ⟨y23, hc24, h⟩ := gx_bind h
    refine cc_iS (As := [.int p1, .int (0 : Int32), .int (5 : Int32)]) (rest := [.ref (ad 0)]) ⟨hx, hb, hml, hown, hts⟩ (k_X10_isIn l D cI cZ ad u p1 (0 : Int32) (5 : Int32) hc24) (va_cwS 3 hts (gwS mw_860 mw_861 mw_59 mw_862) rfl rfl rfl (by decide +kernel) ⟨Nat.le_of_ble_eq_true rfl, Nat.le_of_ble_eq_true rfl⟩) hK hP hD hS hA hZ rfl hl.1 rfl (Nat.le_of_ble_eq_true rfl) dX10_section_15 ⟨Nat.zero_le _, Nat.zero_le _⟩ (fun H locs hP hD hS => ?_)
    refine lv_if_eq (tgt := 25) hx hb dX10_section_18 (by decide) (fun c25 => ?_) (fun c25 => ?_)
    · replace h := gx_t c25 h
      refine lv_iconst (v := 2) hx hb dX10_section_25 (by decide) ?_
      exact hj26_3 (2 : Int32) _ _ _ h hP hD hS (lv_sub hl [0, 1, 2] rfl)
    · replace h := gx_f c25 h
      refine lv_iconst (v := 0) hx hb dX10_section_21 (by decide) ?_
      refine lv_goto (tgt := 26) hx hb dX10_section_22 (by decide) ?_
      exact hj26_3 (0 : Int32) _ _ _ h hP hD hS (lv_sub hl [0, 1, 2] rfl)
  · replace h := gx_t c22 h
    refine lv_iconst (v := 1) hx hb dX10_section_8 (by decide) ?_
    refine lv_goto (tgt := 26) hx hb dX10_section_9 (by decide) ?_
    exact hj26_3 (1 : Int32) _ _ _ h hP hD hS (lv_sub hl [0, 1, 2] rfl)

def rX10_detector : Room := { frames := 2, cells := 0, slots := 0, locals := 42 }
set_option maxHeartbeats 4000000 in
set_option maxRecDepth 100000 in
theorem k_X10_detector (l : Launch) (D : va_G) (cI cZ : ClassId) (ad : Nat → Nat) (u : MS) (p0 : Int32) (p1 : Int32) (p2 : Int32) {r : Int32} {w' : MS} (h : g_X10_detector u p0 p1 p2 = some (r, w')) : MI l yX10_detector (wm yX10_detector cX10_detector 6 (some .int)) rX10_detector D [(cI, .int), (cZ, .boolean)] (wM cI cZ ad u) (wM cI cZ ad w') [.ref (ad 0), .int p0, .int p1, .int p2] r := by
  intro sz
  refine Met.ofW (cc := cX10_detector) (maxL := 6) (ret := (some .int)) (by decide) rfl ?_
  intro p e s m args below meth c s₁ B hml hv
  obtain ⟨rfl, hsz, hP, hK, hD0, hZ⟩ := hv
  have hx := B.exec
  have hb := B.bytes
  have hr := B.returns
  have hts : ∀ w ∈ Wall, w.before _ s = true := fun w hw => atoms_spec (ws := wm yX10_detector cX10_detector 6 (some .int)) B.pre w (List.mem_cons_of_mem _ hw)
  have hown : s.vm.findClass RX10 = some m.cls := findClass_of_methodNamed B.named
  have hlocks := B.notSynchronized
  subst hsz
  have hD := hD0.self (sz := s.heap.size)
  generalize hAe : va_A (wM cI cZ ad u) s.heap.size = A at hD hZ ⊢
  have hA : ∀ q : Nat, s.heap.size ≤ q → A q := fun q h => by rw [← hAe]; exact Or.inr h
  have hS : va_S A s.heap s.heap [] := va_S.rf
  have hf32 := hts _ mw_884
  have hf35 := hts _ mw_885
  have hl := lv_entry ([.ref (ad 0), .int p0, .int p1, .int p2]) (n := 6) (Nat.le_of_ble_eq_true rfl)
  rw [lg_entry_eq]
  generalize (lg_sl ([.ref (ad 0), .int p0, .int p1, .int p2]) ++ List.replicate (6 - (lg_sl ([.ref (ad 0), .int p0, .int p1, .int p2])).length) Slot.unset).toArray = ls at hl ⊢
  replace hl : lv_has ls 6 [(0, .ref (ad 0)), (1, .int p0), (2, .int p1), (3, .int p2)] := hl
  refine w_gen (fun Q hQ => ?_)
  refine lv_iload_n hx hb dX10_detector_0 rfl (lv_at hl 2 rfl) ?_
  refine lv_iconst (v := 0) hx hb dX10_detector_1 (by decide) ?_
  refine lv_iconst (v := 2) hx hb dX10_detector_2 (by decide) ?_
  obtain ⟨y1, hc2, h⟩ := gx_bind h
  refine cc_iS (As := [.int p1, .int (0 : Int32), .int (2 : Int32)]) (rest := []) ⟨hx, hb, hml, hown, hts⟩ (k_X10_isIn l D cI cZ ad u p1 (0 : Int32) (2 : Int32) hc2) (va_cwS 3 hts (gwS mw_860 mw_861 mw_59 mw_862) rfl rfl rfl (by decide +kernel) ⟨Nat.le_of_ble_eq_true rfl, Nat.le_of_ble_eq_true rfl⟩) hK hP hD hS hA hZ rfl hl.1 rfl (Nat.le_of_ble_eq_true rfl) dX10_detector_3 ⟨Nat.zero_le _, Nat.zero_le _⟩ (fun H locs hP hD hS => ?_)
  obtain ⟨j29_3, ej29_3, h⟩ := gx_let h
  have hj29_3 : ∀ (z0_29 : Int32) (H : Heap) (locs : List Loc) (ls : Array Slot), j29_3 z0_29 = some (r, w') → va_P D vwCl (wM cI cZ ad u) H → va_D A (wM cI cZ ad u) → va_S A s.heap H locs → lv_has ls 6 [(0, .ref (ad 0)), (1, .int p0), (2, .int p1), (3, .int p2)] → W p l e rX10_detector s m ([.ref (ad 0), .int p0, .int p1, .int p2] : List Value).toArray below meth c H locs 0 0 Q (F0 m 29 ls [.int z0_29]) := by
    intro z0_29 H locs ls h hP hD hS hl
    subst ej29_3
    refine lv_istore (lv' := [(4, .int z0_29), (0, .ref (ad 0)), (1, .int p0), (2, .int p1), (3, .int p2)]) hx hb dX10_detector_29 hl (by decide) rfl (fun ls hl => ?_)
    refine lv_aload_n hx hb dX10_detector_31 rfl (lv_at hl 1 rfl) ?_
    refine lv_iload_n hx hb dX10_detector_32 rfl (lv_at hl 2 rfl) ?_
    obtain ⟨y4, hc5, h⟩ := gx_bind h
    refine cc_iS (As := [.int p0]) (rest := [.ref (ad 0)]) ⟨hx, hb, hml, hown, hts⟩ (k_X10_isSection l D cI cZ ad u p0 hc5) (va_cwS 1 hts (gwS mw_1039 mw_1040 mw_59 mw_1041) rfl rfl rfl (by decide +kernel) ⟨Nat.le_of_ble_eq_true rfl, Nat.le_of_ble_eq_true rfl⟩) hK hP hD hS hA hZ rfl hl.1 rfl (Nat.le_of_ble_eq_true rfl) dX10_detector_33 ⟨Nat.zero_le _, Nat.zero_le _⟩ (fun H locs hP hD hS => ?_)
    obtain ⟨j53_6, ej53_6, h⟩ := gx_let h
    have hj53_6 : ∀ (z0_53 : Int32) (H : Heap) (locs : List Loc) (ls : Array Slot), j53_6 z0_53 = some (r, w') → va_P D vwCl (wM cI cZ ad u) H → va_D A (wM cI cZ ad u) → va_S A s.heap H locs → lv_has ls 6 [(0, .ref (ad 0)), (1, .int p0), (2, .int p1), (3, .int p2)] → W p l e rX10_detector s m ([.ref (ad 0), .int p0, .int p1, .int p2] : List Value).toArray below meth c H locs 0 0 Q (F0 m 53 ls [.int z0_53, .ref (ad 0)]) := by
      intro z0_53 H locs ls h hP hD hS hl
      subst ej53_6
      obtain ⟨y7, hc8, h⟩ := gx_bind h
      refine cc_iV (As := [.int z0_53]) (rest := []) ⟨hx, hb, hml, hown, hts⟩ (k_X10_holds l D cI cZ ad u z0_53 hc8) (cwV 1 hts (gwV mw_976 mw_978 mw_24 mw_59 mw_979) rfl rfl rfl (by decide +kernel) ⟨Nat.le_of_ble_eq_true rfl, Nat.le_of_ble_eq_true rfl⟩) hK hP hD hS hA hZ (ci := 10) (q0 := 0) rfl rfl rfl hl.1 rfl (Nat.le_of_ble_eq_true rfl) dX10_detector_53 ⟨Nat.zero_le _, Nat.zero_le _⟩ (fun H locs hP hD hS => ?_)
      refine lv_if_ne (tgt := 61) hx hb dX10_detector_56 (by decide) (fun c9 => ?_) (fun c9 => ?_)
      · replace h := gx_f c9 h
        refine lv_aload_n hx hb dX10_detector_61 rfl (lv_at hl 0 rfl) ?_
        refine va_get (D := D) (ci := 10) (v := .ref (ad 8)) (C := RX10) (T := TX10) (N := 32) hx hb hts iX10 hown hK hP 0 rfl rfl 13 (by decide) hf32 (fun _ h9 => h9) rfl dX10_detector_62 ?_
        refine lv_iload_n hx hb dX10_detector_65 rfl (lv_at hl 1 rfl) ?_
        obtain ⟨b10, h⟩ := gx_in h
        refine va_iald (D := D) hx hb hK hP 8 0 rfl rfl b10 dX10_detector_66 ?_
        obtain ⟨v11, ev11, h⟩ := gx_let h
        refine lv_topn ev11 ?_
        refine lv_istore (lv' := [(5, .int v11), (0, .ref (ad 0)), (1, .int p0), (2, .int p1), (3, .int p2)]) hx hb dX10_detector_67 hl (by decide) rfl (fun ls hl => ?_)
        refine lv_aload_n hx hb dX10_detector_69 rfl (lv_at hl 1 rfl) ?_
        refine va_get (D := D) (ci := 10) (v := .ref (ad 8)) (C := RX10) (T := TX10) (N := 32) hx hb hts iX10 hown hK hP 0 rfl rfl 13 (by decide) hf32 (fun _ h9 => h9) rfl dX10_detector_70 ?_
        refine lv_iload_n hx hb dX10_detector_73 rfl (lv_at hl 2 rfl) ?_
        refine lv_iload_n hx hb dX10_detector_74 rfl (lv_at hl 3 rfl) ?_
        obtain ⟨b12, h⟩ := gx_in h
        refine va_iast (D := D) hx hb hK hP hD hS 8 0 rfl rfl b12 dX10_detector_75 (fun H locs hP hD hS => ?_)
        obtain ⟨u13, eu13, h⟩ := gx_let h
        replace hP : va_P D vwCl (wM cI cZ ad u13) H := by rw [← eu13]; exact hP
        replace hD : va_D A (wM cI cZ ad u13) := by rw [← eu13]; exact hD
        refine lv_aload_n hx hb dX10_detector_76 rfl (lv_at hl 1 rfl) ?_
        refine va_get (D := D) (ci := 10) (v := .ref (ad 9)) (C := RX10) (T := TX10) (N := 32) hx hb hts iX10 hown hK hP 0 rfl rfl 14 (by decide) hf35 (fun _ h9 => h9) rfl dX10_detector_77 ?_
        refine lv_iload_n hx hb dX10_detector_80 rfl (lv_at hl 2 rfl) ?_
        refine lv_iload_n hx hb dX10_detector_81 rfl (lv_at hl 4 rfl) ?_
        obtain ⟨b14, h⟩ := gx_in h
        refine va_iast (D := D) hx hb hK hP hD hS 9 0 rfl rfl b14 dX10_detector_82 (fun H locs hP hD hS => ?_)
        obtain ⟨u15, eu15, h⟩ := gx_let h
        replace hP : va_P D vwCl (wM cI cZ ad u15) H := by rw [← eu15]; exact hP
        replace hD : va_D A (wM cI cZ ad u15) := by rw [← eu15]; exact hD
        refine lv_iload hx hb dX10_detector_83 (lv_at hl 0 rfl) ?_
        cases h
        exact cc_ret hx hb hr rfl hQ hK hP hD hS rfl dX10_detector_85 hlocks
      · replace h := gx_t c9 h
        refine lv_iconst (v := 0) hx hb dX10_detector_59 (by decide) ?_
        cases h
        exact cc_ret hx hb hr rfl hQ hK hP hD hS rfl dX10_detector_60 hlocks
    refine lv_if_ne (tgt := 43) hx hb dX10_detector_36 (by decide) (fun c16 => ?_) (fun c16 => ?_)
    · replace h := gx_f c16 h
      refine lv_iload hx hb dX10_detector_43 (lv_at hl 0 rfl) ?_
      refine lv_if_eq (tgt := 52) hx hb dX10_detector_45 (by decide) (fun c17 => ?_) (fun c17 => ?_)
      · replace h := gx_t c17 h
        refine lv_iconst (v := 2) hx hb dX10_detector_52 (by decide) ?_
        exact hj53_6 (2 : Int32) _ _ _ h hP hD hS (lv_sub hl [1, 2, 3, 4] rfl)
      · replace h := gx_f c17 h
        refine lv_iconst (v := 0) hx hb dX10_detector_48 (by decide) ?_
        refine lv_goto (tgt := 53) hx hb dX10_detector_49 (by decide) ?_
        exact hj53_6 (0 : Int32) _ _ _ h hP hD hS (lv_sub hl [1, 2, 3, 4] rfl)
    · replace h := gx_t c16 h
      refine lv_iconst (v := 1) hx hb dX10_detector_39 (by decide) ?_
      refine lv_goto (tgt := 53) hx hb dX10_detector_40 (by decide) ?_
      exact hj53_6 (1 : Int32) _ _ _ h hP hD hS (lv_sub hl [1, 2, 3, 4] rfl)
  obtain ⟨j28_18, ej28_18, h⟩ := gx_let h
  have hj28_18 : ∀ (H : Heap) (locs : List Loc) (ls : Array Slot), j28_18 () = some (r, w') → va_P D vwCl (wM cI cZ ad u) H → va_D A (wM cI cZ ad u) → va_S A s.heap H locs → lv_has ls 6 [(0, .ref (ad 0)), (1, .int p0), (2, .int p1), (3, .int p2)] → W p l e rX10_detector s m ([.ref (ad 0), .int p0, .int p1, .int p2] : List Value).toArray below meth c H locs 0 0 Q (F0 m 28 ls []) := by
    intro  H locs ls h hP hD hS hl
    subst ej28_18
    refine lv_iconst (v := 0) hx hb dX10_detector_28 (by decide) ?_
    exact hj29_3 (0 : Int32) _ _ _ h hP hD hS (lv_sub hl [0, 1, 2, 3] rfl)
  refine lv_if_eq (tgt := 28) hx hb dX10_detector_6 (by decide) (fun c19 => ?_) (fun c19 => ?_)
  · replace h := gx_t c19 h
    exact hj28_18 _ _ _ h hP hD hS (lv_sub hl [0, 1, 2, 3] rfl)
  · replace h := gx_f c19 h
    refine lv_iload_n hx hb dX10_detector_9 rfl (lv_at hl 2 rfl) ?_
    refine lv_iconst (v := 1) hx hb dX10_detector_10 (by decide) ?_
    obtain ⟨j24_20, ej24_20, h⟩ := gx_let h
    have hj24_20 : ∀ (H : Heap) (locs : List Loc) (ls : Array Slot), j24_20 () = some (r, w') → va_P D vwCl (wM cI cZ ad u) H → va_D A (wM cI cZ ad u) → va_S A s.heap H locs → lv_has ls 6 [(0, .ref (ad 0)), (1, .int p0), (2, .int p1), (3, .int p2)] → W p l e rX10_detector s m ([.ref (ad 0), .int p0, .int p1, .int p2] : List Value).toArray below meth c H locs 0 0 Q (F0 m 24 ls []) := by
      intro  H locs ls h hP hD hS hl
      subst ej24_20
      refine lv_iconst (v := 1) hx hb dX10_detector_24 (by decide) ?_
      refine lv_goto (tgt := 29) hx hb dX10_detector_25 (by decide) ?_
      exact hj29_3 (1 : Int32) _ _ _ h hP hD hS (lv_sub hl [0, 1, 2, 3] rfl)
    refine lv_icmp_ne (tgt := 24) hx hb dX10_detector_11 (by decide) (fun c21 => ?_) (fun c21 => ?_)
    · replace h := gx_f c21 h
      exact hj24_20 _ _ _ h hP hD hS (lv_sub hl [0, 1, 2, 3] rfl)
    · replace h := gx_t c21 h
      refine lv_iload_n hx hb dX10_detector_14 rfl (lv_at hl 3 rfl) ?_
      refine lv_iconst (v := 0) hx hb dX10_detector_15 (by decide) ?_
      refine lv_bipush (v := 120) hx hb dX10_detector_16 (by decide) ?_
      obtain ⟨y22, hc23, h⟩ := gx_bind h
      refine cc_iS (As := [.int p2, .int (0 : Int32), .int (120 : Int32)]) (rest := []) ⟨hx, hb, hml, hown, hts⟩ (k_X10_isIn l D cI cZ ad u p2 (0 : Int32) (120 : Int32) hc23) (va_cwS 3 hts (gwS mw_860 mw_861 mw_59 mw_862) rfl rfl rfl (by decide +kernel) ⟨Nat.le_of_ble_eq_true rfl, Nat.le_of_ble_eq_true rfl⟩) hK hP hD hS hA hZ rfl hl.1 rfl (Nat.le_of_ble_eq_true rfl) dX10_detector_18 ⟨Nat.zero_le _, Nat.zero_le _⟩ (fun H locs hP hD hS => ?_)
      refine lv_if_eq (tgt := 28) hx hb dX10_detector_21 (by decide) (fun c24 => ?_) (fun c24 => ?_)
      · replace h := gx_t c24 h
        exact hj28_18 _ _ _ h hP hD hS (lv_sub hl [0, 1, 2, 3] rfl)
      · replace h := gx_f c24 h
        exact hj24_20 _ _ _ h hP hD hS (lv_sub hl [0, 1, 2, 3] rfl)

def rX10_weather : Room := { frames := 1, cells := 0, slots := 0, locals := 22 }
set_option maxHeartbeats 4000000 in
set_option maxRecDepth 100000 in
theorem k_X10_weather (l : Launch) (D : va_G) (cI cZ : ClassId) (ad : Nat → Nat) (u : MS) (p0 : Int32) {r : Int32} {w' : MS} (h : g_X10_weather u p0 = some (r, w')) : MI l yX10_weather (wm yX10_weather cX10_weather 3 (some .int)) rX10_weather D [(cI, .int), (cZ, .boolean)] (wM cI cZ ad u) (wM cI cZ ad w') [.ref (ad 0), .int p0] r := by
  intro sz
  refine Met.ofW (cc := cX10_weather) (maxL := 3) (ret := (some .int)) (by decide) rfl ?_
  intro p e s m args below meth c s₁ B hml hv
  obtain ⟨rfl, hsz, hP, hK, hD0, hZ⟩ := hv
  have hx := B.exec
  have hb := B.bytes
  have hr := B.returns
  have hts : ∀ w ∈ Wall, w.before _ s = true := fun w hw => atoms_spec (ws := wm yX10_weather cX10_weather 3 (some .int)) B.pre w (List.mem_cons_of_mem _ hw)
  have hown : s.vm.findClass RX10 = some m.cls := findClass_of_methodNamed B.named
  have hlocks := B.notSynchronized
  subst hsz
  have hD := hD0.self (sz := s.heap.size)
  generalize hAe : va_A (wM cI cZ ad u) s.heap.size = A at hD hZ ⊢
  have hA : ∀ q : Nat, s.heap.size ≤ q → A q := fun q h => by rw [← hAe]; exact Or.inr h
  have hS : va_S A s.heap s.heap [] := va_S.rf
  have hf152 := hts _ mw_889
  have hl := lv_entry ([.ref (ad 0), .int p0]) (n := 3) (Nat.le_of_ble_eq_true rfl)
  rw [lg_entry_eq]
  generalize (lg_sl ([.ref (ad 0), .int p0]) ++ List.replicate (3 - (lg_sl ([.ref (ad 0), .int p0])).length) Slot.unset).toArray = ls at hl ⊢
  replace hl : lv_has ls 3 [(0, .ref (ad 0)), (1, .int p0)] := hl
  refine w_gen (fun Q hQ => ?_)
  refine lv_aload_n hx hb dX10_weather_0 rfl (lv_at hl 0 rfl) ?_
  refine lv_iload_n hx hb dX10_weather_1 rfl (lv_at hl 1 rfl) ?_
  refine lv_iconst (v := 0) hx hb dX10_weather_2 (by decide) ?_
  refine lv_iconst (v := 3) hx hb dX10_weather_3 (by decide) ?_
  obtain ⟨y1, hc2, h⟩ := gx_bind h
  refine cc_iS (As := [.int p0, .int (0 : Int32), .int (3 : Int32)]) (rest := [.ref (ad 0)]) ⟨hx, hb, hml, hown, hts⟩ (k_X10_isIn l D cI cZ ad u p0 (0 : Int32) (3 : Int32) hc2) (va_cwS 3 hts (gwS mw_860 mw_861 mw_59 mw_862) rfl rfl rfl (by decide +kernel) ⟨Nat.le_of_ble_eq_true rfl, Nat.le_of_ble_eq_true rfl⟩) hK hP hD hS hA hZ rfl hl.1 rfl (Nat.le_of_ble_eq_true rfl) dX10_weather_4 ⟨Nat.zero_le _, Nat.zero_le _⟩ (fun H locs hP hD hS => ?_)
  obtain ⟨j15_3, ej15_3, h⟩ := gx_let h
  have hj15_3 : ∀ (z0_15 : Int32) (H : Heap) (locs : List Loc) (ls : Array Slot), j15_3 z0_15 = some (r, w') → va_P D vwCl (wM cI cZ ad u) H → va_D A (wM cI cZ ad u) → va_S A s.heap H locs → lv_has ls 3 [(0, .ref (ad 0)), (1, .int p0)] → W p l e rX10_weather s m ([.ref (ad 0), .int p0] : List Value).toArray below meth c H locs 0 0 Q (F0 m 15 ls [.int z0_15, .ref (ad 0)]) := by
    intro z0_15 H locs ls h hP hD hS hl
    subst ej15_3
    obtain ⟨y4, hc5, h⟩ := gx_bind h
    refine cc_iV (As := [.int z0_15]) (rest := []) ⟨hx, hb, hml, hown, hts⟩ (k_X10_holds l D cI cZ ad u z0_15 hc5) (cwV 1 hts (gwV mw_976 mw_978 mw_24 mw_59 mw_979) rfl rfl rfl (by decide +kernel) ⟨Nat.le_of_ble_eq_true rfl, Nat.le_of_ble_eq_true rfl⟩) hK hP hD hS hA hZ (ci := 10) (q0 := 0) rfl rfl rfl hl.1 rfl (Nat.le_of_ble_eq_true rfl) dX10_weather_15 ⟨Nat.zero_le _, Nat.zero_le _⟩ (fun H locs hP hD hS => ?_)
    refine lv_if_ne (tgt := 23) hx hb dX10_weather_18 (by decide) (fun c6 => ?_) (fun c6 => ?_)
    · replace h := gx_f c6 h
      refine lv_aload_n hx hb dX10_weather_23 rfl (lv_at hl 0 rfl) ?_
      refine va_get (D := D) (ci := 10) (v := .int (mS_weather y4.2)) (C := RX10) (T := TX10) (N := 32) hx hb hts iX10 hown hK hP 0 rfl rfl 18 (by decide) hf152 (fun _ h9 => h9) rfl dX10_weather_24 ?_
      obtain ⟨v7, ev7, h⟩ := gx_let h
      refine lv_topn ev7 ?_
      refine lv_istore_n (lv' := [(2, .int v7), (0, .ref (ad 0)), (1, .int p0)]) hx hb dX10_weather_27 rfl hl (by decide) rfl (fun ls hl => ?_)
      refine lv_aload_n hx hb dX10_weather_28 rfl (lv_at hl 1 rfl) ?_
      refine lv_iload_n hx hb dX10_weather_29 rfl (lv_at hl 2 rfl) ?_
      refine va_put (D := D) (ci := 10) (v := .int p0) (ty := .int) (C := RX10) (T := TX10) (N := 32) hx hb hts iX10 tyX10 tyX10_ok nmX10 hown hK hP hD hS 0 rfl rfl 18 (by decide) hf152 (fun _ h9 => h9) rfl (by decide +kernel) rfl rfl (Nat.le_of_ble_eq_true rfl) dX10_weather_30 (fun H locs hP hD hS => ?_)
      obtain ⟨u8, eu8, h⟩ := gx_let h
      replace hP : va_P D vwCl (wM cI cZ ad u8) H := by rw [← eu8]; exact hP
      replace hD : va_D A (wM cI cZ ad u8) := by rw [← eu8]; exact hD
      refine lv_iload_n hx hb dX10_weather_33 rfl (lv_at hl 0 rfl) ?_
      cases h
      exact cc_ret hx hb hr rfl hQ hK hP hD hS rfl dX10_weather_34 hlocks
    · replace h := gx_t c6 h
      refine lv_iconst (v := 0) hx hb dX10_weather_21 (by decide) ?_
      cases h
      exact cc_ret hx hb hr rfl hQ hK hP hD hS rfl dX10_weather_22 hlocks
  refine lv_if_eq (tgt := 14) hx hb dX10_weather_7 (by decide) (fun c9 => ?_) (fun c9 => ?_)
  · replace h := gx_t c9 h
    refine lv_iconst (v := 1) hx hb dX10_weather_14 (by decide) ?_
    exact hj15_3 (1 : Int32) _ _ _ h hP hD hS (lv_sub hl [0, 1] rfl)
  · replace h := gx_f c9 h
    refine lv_iconst (v := 0) hx hb dX10_weather_10 (by decide) ?_
    refine lv_goto (tgt := 15) hx hb dX10_weather_11 (by decide) ?_
    exact hj15_3 (0 : Int32) _ _ _ h hP hD hS (lv_sub hl [0, 1] rfl)

def rX10_limit : Room := { frames := 2, cells := 0, slots := 0, locals := 42 }
set_option maxHeartbeats 4000000 in
set_option maxRecDepth 100000 in
theorem k_X10_limit (l : Launch) (D : va_G) (cI cZ : ClassId) (ad : Nat → Nat) (u : MS) (p0 : Int32) (p1 : Int32) {r : Int32} {w' : MS} (h : g_X10_limit u p0 p1 = some (r, w')) : MI l yX10_limit (wm yX10_limit cX10_limit 5 (some .int)) rX10_limit D [(cI, .int), (cZ, .boolean)] (wM cI cZ ad u) (wM cI cZ ad w') [.ref (ad 0), .int p0, .int p1] r := by
  intro sz
  refine Met.ofW (cc := cX10_limit) (maxL := 5) (ret := (some .int)) (by decide) rfl ?_
  intro p e s m args below meth c s₁ B hml hv
  obtain ⟨rfl, hsz, hP, hK, hD0, hZ⟩ := hv
  have hx := B.exec
  have hb := B.bytes
  have hr := B.returns
  have hts : ∀ w ∈ Wall, w.before _ s = true := fun w hw => atoms_spec (ws := wm yX10_limit cX10_limit 5 (some .int)) B.pre w (List.mem_cons_of_mem _ hw)
  have hown : s.vm.findClass RX10 = some m.cls := findClass_of_methodNamed B.named
  have hlocks := B.notSynchronized
  subst hsz
  have hD := hD0.self (sz := s.heap.size)
  generalize hAe : va_A (wM cI cZ ad u) s.heap.size = A at hD hZ ⊢
  have hA : ∀ q : Nat, s.heap.size ≤ q → A q := fun q h => by rw [← hAe]; exact Or.inr h
  have hS : va_S A s.heap s.heap [] := va_S.rf
  have hf38 := hts _ mw_886
  have hl := lv_entry ([.ref (ad 0), .int p0, .int p1]) (n := 5) (Nat.le_of_ble_eq_true rfl)
  rw [lg_entry_eq]
  generalize (lg_sl ([.ref (ad 0), .int p0, .int p1]) ++ List.replicate (5 - (lg_sl ([.ref (ad 0), .int p0, .int p1])).length) Slot.unset).toArray = ls at hl ⊢
  replace hl : lv_has ls 5 [(0, .ref (ad 0)), (1, .int p0), (2, .int p1)] := hl
  refine w_gen (fun Q hQ => ?_)
  refine lv_iload_n hx hb dX10_limit_0 rfl (lv_at hl 2 rfl) ?_
  refine lv_iconst (v := (-1)) hx hb dX10_limit_1 (by decide) ?_
  obtain ⟨j28_1, ej28_1, h⟩ := gx_let h
  have hj28_1 : ∀ (z0_28 : Int32) (H : Heap) (locs : List Loc) (ls : Array Slot), j28_1 z0_28 = some (r, w') → va_P D vwCl (wM cI cZ ad u) H → va_D A (wM cI cZ ad u) → va_S A s.heap H locs → lv_has ls 5 [(0, .ref (ad 0)), (1, .int p0), (2, .int p1)] → W p l e rX10_limit s m ([.ref (ad 0), .int p0, .int p1] : List Value).toArray below meth c H locs 0 0 Q (F0 m 28 ls [.int z0_28]) := by
    intro z0_28 H locs ls h hP hD hS hl
    subst ej28_1
    refine lv_istore_n (lv' := [(3, .int z0_28), (0, .ref (ad 0)), (1, .int p0), (2, .int p1)]) hx hb dX10_limit_28 rfl hl (by decide) rfl (fun ls hl => ?_)
    refine lv_aload_n hx hb dX10_limit_29 rfl (lv_at hl 1 rfl) ?_
    refine lv_iload_n hx hb dX10_limit_30 rfl (lv_at hl 2 rfl) ?_
    obtain ⟨y2, hc3, h⟩ := gx_bind h
    refine cc_iS (As := [.int p0]) (rest := [.ref (ad 0)]) ⟨hx, hb, hml, hown, hts⟩ (k_X10_isSection l D cI cZ ad u p0 hc3) (va_cwS 1 hts (gwS mw_1039 mw_1040 mw_59 mw_1041) rfl rfl rfl (by decide +kernel) ⟨Nat.le_of_ble_eq_true rfl, Nat.le_of_ble_eq_true rfl⟩) hK hP hD hS hA hZ rfl hl.1 rfl (Nat.le_of_ble_eq_true rfl) dX10_limit_31 ⟨Nat.zero_le _, Nat.zero_le _⟩ (fun H locs hP hD hS => ?_)
    obtain ⟨j50_4, ej50_4, h⟩ := gx_let h
    have hj50_4 : ∀ (z0_50 : Int32) (H : Heap) (locs : List Loc) (ls : Array Slot), j50_4 z0_50 = some (r, w') → va_P D vwCl (wM cI cZ ad u) H → va_D A (wM cI cZ ad u) → va_S A s.heap H locs → lv_has ls 5 [(0, .ref (ad 0)), (1, .int p0), (2, .int p1)] → W p l e rX10_limit s m ([.ref (ad 0), .int p0, .int p1] : List Value).toArray below meth c H locs 0 0 Q (F0 m 50 ls [.int z0_50, .ref (ad 0)]) := by
      intro z0_50 H locs ls h hP hD hS hl
      subst ej50_4
      obtain ⟨y5, hc6, h⟩ := gx_bind h
      refine cc_iV (As := [.int z0_50]) (rest := []) ⟨hx, hb, hml, hown, hts⟩ (k_X10_holds l D cI cZ ad u z0_50 hc6) (cwV 1 hts (gwV mw_976 mw_978 mw_24 mw_59 mw_979) rfl rfl rfl (by decide +kernel) ⟨Nat.le_of_ble_eq_true rfl, Nat.le_of_ble_eq_true rfl⟩) hK hP hD hS hA hZ (ci := 10) (q0 := 0) rfl rfl rfl hl.1 rfl (Nat.le_of_ble_eq_true rfl) dX10_limit_50 ⟨Nat.zero_le _, Nat.zero_le _⟩ (fun H locs hP hD hS => ?_)
      refine lv_if_ne (tgt := 58) hx hb dX10_limit_53 (by decide) (fun c7 => ?_) (fun c7 => ?_)
      · replace h := gx_f c7 h
        refine lv_aload_n hx hb dX10_limit_58 rfl (lv_at hl 0 rfl) ?_
        refine va_get (D := D) (ci := 10) (v := .ref (ad 10)) (C := RX10) (T := TX10) (N := 32) hx hb hts iX10 hown hK hP 0 rfl rfl 15 (by decide) hf38 (fun _ h9 => h9) rfl dX10_limit_59 ?_
        refine lv_iload_n hx hb dX10_limit_62 rfl (lv_at hl 1 rfl) ?_
        obtain ⟨b8, h⟩ := gx_in h
        refine va_iald (D := D) hx hb hK hP 10 0 rfl rfl b8 dX10_limit_63 ?_
        obtain ⟨v9, ev9, h⟩ := gx_let h
        refine lv_topn ev9 ?_
        refine lv_istore (lv' := [(4, .int v9), (0, .ref (ad 0)), (1, .int p0), (2, .int p1)]) hx hb dX10_limit_64 hl (by decide) rfl (fun ls hl => ?_)
        refine lv_aload_n hx hb dX10_limit_66 rfl (lv_at hl 1 rfl) ?_
        refine va_get (D := D) (ci := 10) (v := .ref (ad 10)) (C := RX10) (T := TX10) (N := 32) hx hb hts iX10 hown hK hP 0 rfl rfl 15 (by decide) hf38 (fun _ h9 => h9) rfl dX10_limit_67 ?_
        refine lv_iload_n hx hb dX10_limit_70 rfl (lv_at hl 2 rfl) ?_
        refine lv_iload_n hx hb dX10_limit_71 rfl (lv_at hl 3 rfl) ?_
        obtain ⟨b10, h⟩ := gx_in h
        refine va_iast (D := D) hx hb hK hP hD hS 10 0 rfl rfl b10 dX10_limit_72 (fun H locs hP hD hS => ?_)
        obtain ⟨u11, eu11, h⟩ := gx_let h
        replace hP : va_P D vwCl (wM cI cZ ad u11) H := by rw [← eu11]; exact hP
        replace hD : va_D A (wM cI cZ ad u11) := by rw [← eu11]; exact hD
        refine lv_iload hx hb dX10_limit_73 (lv_at hl 0 rfl) ?_
        cases h
        exact cc_ret hx hb hr rfl hQ hK hP hD hS rfl dX10_limit_75 hlocks
      · replace h := gx_t c7 h
        refine lv_iconst (v := 0) hx hb dX10_limit_56 (by decide) ?_
        cases h
        exact cc_ret hx hb hr rfl hQ hK hP hD hS rfl dX10_limit_57 hlocks
    refine lv_if_ne (tgt := 41) hx hb dX10_limit_34 (by decide) (fun c12 => ?_) (fun c12 => ?_)
    · replace h := gx_f c12 h
      refine lv_iload_n hx hb dX10_limit_41 rfl (lv_at hl 0 rfl) ?_
      refine lv_if_eq (tgt := 49) hx hb dX10_limit_42 (by decide) (fun c13 => ?_) (fun c13 => ?_)
      · replace h := gx_t c13 h
        refine lv_iconst (v := 2) hx hb dX10_limit_49 (by decide) ?_
        exact hj50_4 (2 : Int32) _ _ _ h hP hD hS (lv_sub hl [1, 2, 3] rfl)
      · replace h := gx_f c13 h
        refine lv_iconst (v := 0) hx hb dX10_limit_45 (by decide) ?_
        refine lv_goto (tgt := 50) hx hb dX10_limit_46 (by decide) ?_
        exact hj50_4 (0 : Int32) _ _ _ h hP hD hS (lv_sub hl [1, 2, 3] rfl)
    · replace h := gx_t c12 h
      refine lv_iconst (v := 1) hx hb dX10_limit_37 (by decide) ?_
      refine lv_goto (tgt := 50) hx hb dX10_limit_38 (by decide) ?_
      exact hj50_4 (1 : Int32) _ _ _ h hP hD hS (lv_sub hl [1, 2, 3] rfl)
  obtain ⟨j23_14, ej23_14, h⟩ := gx_let h
  have hj23_14 : ∀ (H : Heap) (locs : List Loc) (ls : Array Slot), j23_14 () = some (r, w') → va_P D vwCl (wM cI cZ ad u) H → va_D A (wM cI cZ ad u) → va_S A s.heap H locs → lv_has ls 5 [(0, .ref (ad 0)), (1, .int p0), (2, .int p1)] → W p l e rX10_limit s m ([.ref (ad 0), .int p0, .int p1] : List Value).toArray below meth c H locs 0 0 Q (F0 m 23 ls []) := by
    intro  H locs ls h hP hD hS hl
    subst ej23_14
    refine lv_iconst (v := 1) hx hb dX10_limit_23 (by decide) ?_
    refine lv_goto (tgt := 28) hx hb dX10_limit_24 (by decide) ?_
    exact hj28_1 (1 : Int32) _ _ _ h hP hD hS (lv_sub hl [0, 1, 2] rfl)
  refine lv_icmp_eq (tgt := 23) hx hb dX10_limit_2 (by decide) (fun c15 => ?_) (fun c15 => ?_)
  · replace h := gx_t c15 h
    exact hj23_14 _ _ _ h hP hD hS (lv_sub hl [0, 1, 2] rfl)
  · replace h := gx_f c15 h
    refine lv_iload_n hx hb dX10_limit_5 rfl (lv_at hl 2 rfl) ?_
    refine lv_bipush (v := 40) hx hb dX10_limit_6 (by decide) ?_
    refine lv_bipush (v := 120) hx hb dX10_limit_8 (by decide) ?_
    obtain ⟨y16, hc17, h⟩ := gx_bind h
    refine cc_iS (As := [.int p1, .int (40 : Int32), .int (120 : Int32)]) (rest := []) ⟨hx, hb, hml, hown, hts⟩ (k_X10_isIn l D cI cZ ad u p1 (40 : Int32) (120 : Int32) hc17) (va_cwS 3 hts (gwS mw_860 mw_861 mw_59 mw_862) rfl rfl rfl (by decide +kernel) ⟨Nat.le_of_ble_eq_true rfl, Nat.le_of_ble_eq_true rfl⟩) hK hP hD hS hA hZ rfl hl.1 rfl (Nat.le_of_ble_eq_true rfl) dX10_limit_10 ⟨Nat.zero_le _, Nat.zero_le _⟩ (fun H locs hP hD hS => ?_)
    obtain ⟨j27_18, ej27_18, h⟩ := gx_let h
    have hj27_18 : ∀ (H : Heap) (locs : List Loc) (ls : Array Slot), j27_18 () = some (r, w') → va_P D vwCl (wM cI cZ ad u) H → va_D A (wM cI cZ ad u) → va_S A s.heap H locs → lv_has ls 5 [(0, .ref (ad 0)), (1, .int p0), (2, .int p1)] → W p l e rX10_limit s m ([.ref (ad 0), .int p0, .int p1] : List Value).toArray below meth c H locs 0 0 Q (F0 m 27 ls []) := by
      intro  H locs ls h hP hD hS hl
      subst ej27_18
      refine lv_iconst (v := 0) hx hb dX10_limit_27 (by decide) ?_
      exact hj28_1 (0 : Int32) _ _ _ h hP hD hS (lv_sub hl [0, 1, 2] rfl)
    refine lv_if_eq (tgt := 27) hx hb dX10_limit_13 (by decide) (fun c19 => ?_) (fun c19 => ?_)
    · replace h := gx_t c19 h
      exact hj27_18 _ _ _ h hP hD hS (lv_sub hl [0, 1, 2] rfl)
    · replace h := gx_f c19 h
      refine lv_iload_n hx hb dX10_limit_16 rfl (lv_at hl 2 rfl) ?_
      refine lv_bipush (v := 20) hx hb dX10_limit_17 (by decide) ?_
      refine lv_irem hx hb dX10_limit_19 (by decide) ?_
      refine lv_if_ne (tgt := 27) hx hb dX10_limit_20 (by decide) (fun c20 => ?_) (fun c20 => ?_)
      · replace h := gx_f c20 h
        exact hj27_18 _ _ _ h hP hD hS (lv_sub hl [0, 1, 2] rfl)
      · replace h := gx_t c20 h
        exact hj23_14 _ _ _ h hP hD hS (lv_sub hl [0, 1, 2] rfl)

def rX10_order : Room := { frames := 3, cells := 0, slots := 0, locals := 63 }
set_option maxHeartbeats 4000000 in
set_option maxRecDepth 100000 in
theorem k_X10_order (l : Launch) (D : va_G) (cI cZ : ClassId) (ad : Nat → Nat) (u : MS) (p0 : Int32) (p1 : Int32) (p2 : Int32) {r : Int32} {w' : MS} (h : g_X10_order u p0 p1 p2 = some (r, w')) : MI l yX10_order (wm yX10_order cX10_order 6 (some .int)) rX10_order D [(cI, .int), (cZ, .boolean)] (wM cI cZ ad u) (wM cI cZ ad w') [.ref (ad 0), .int p0, .int p1, .int p2] r := by
  intro sz
  refine Met.ofW (cc := cX10_order) (maxL := 6) (ret := (some .int)) (by decide) rfl ?_
  intro p e s m args below meth c s₁ B hml hv
  obtain ⟨rfl, hsz, hP, hK, hD0, hZ⟩ := hv
  have hx := B.exec
  have hb := B.bytes
  have hr := B.returns
  have hts : ∀ w ∈ Wall, w.before _ s = true := fun w hw => atoms_spec (ws := wm yX10_order cX10_order 6 (some .int)) B.pre w (List.mem_cons_of_mem _ hw)
  have hown : s.vm.findClass RX10 = some m.cls := findClass_of_methodNamed B.named
  have hlocks := B.notSynchronized
  subst hsz
  have hD := hD0.self (sz := s.heap.size)
  generalize hAe : va_A (wM cI cZ ad u) s.heap.size = A at hD hZ ⊢
  have hA : ∀ q : Nat, s.heap.size ≤ q → A q := fun q h => by rw [← hAe]; exact Or.inr h
  have hS : va_S A s.heap s.heap [] := va_S.rf
  have hf17 := hts _ mw_879
  have hl := lv_entry ([.ref (ad 0), .int p0, .int p1, .int p2]) (n := 6) (Nat.le_of_ble_eq_true rfl)
  rw [lg_entry_eq]
  generalize (lg_sl ([.ref (ad 0), .int p0, .int p1, .int p2]) ++ List.replicate (6 - (lg_sl ([.ref (ad 0), .int p0, .int p1, .int p2])).length) Slot.unset).toArray = ls at hl ⊢
  replace hl : lv_has ls 6 [(0, .ref (ad 0)), (1, .int p0), (2, .int p1), (3, .int p2)] := hl
  refine w_gen (fun Q hQ => ?_)
  refine lv_aload_n hx hb dX10_order_0 rfl (lv_at hl 0 rfl) ?_
  refine lv_iload_n hx hb dX10_order_1 rfl (lv_at hl 1 rfl) ?_
  refine lv_iload_n hx hb dX10_order_2 rfl (lv_at hl 2 rfl) ?_
  obtain ⟨y1, hc2, h⟩ := gx_bind h
  refine cc_iS (As := [.int p0, .int p1]) (rest := [.ref (ad 0)]) ⟨hx, hb, hml, hown, hts⟩ (k_X10_isPlace l D cI cZ ad u p0 p1 hc2) (va_cwS 2 hts (gwS mw_1036 mw_1037 mw_59 mw_1038) rfl rfl rfl (by decide +kernel) ⟨Nat.le_of_ble_eq_true rfl, Nat.le_of_ble_eq_true rfl⟩) hK hP hD hS hA hZ rfl hl.1 rfl (Nat.le_of_ble_eq_true rfl) dX10_order_3 ⟨Nat.zero_le _, Nat.zero_le _⟩ (fun H locs hP hD hS => ?_)
  obtain ⟨j40_3, ej40_3, h⟩ := gx_let h
  have hj40_3 : ∀ (z0_40 : Int32) (H : Heap) (locs : List Loc) (ls : Array Slot), j40_3 z0_40 = some (r, w') → va_P D vwCl (wM cI cZ ad u) H → va_D A (wM cI cZ ad u) → va_S A s.heap H locs → lv_has ls 6 [(0, .ref (ad 0)), (1, .int p0), (2, .int p1), (3, .int p2)] → W p l e rX10_order s m ([.ref (ad 0), .int p0, .int p1, .int p2] : List Value).toArray below meth c H locs 0 0 Q (F0 m 40 ls [.int z0_40, .ref (ad 0)]) := by
    intro z0_40 H locs ls h hP hD hS hl
    subst ej40_3
    obtain ⟨y4, hc5, h⟩ := gx_bind h
    refine cc_iV (As := [.int z0_40]) (rest := []) ⟨hx, hb, hml, hown, hts⟩ (k_X10_holds l D cI cZ ad u z0_40 hc5) (cwV 1 hts (gwV mw_976 mw_978 mw_24 mw_59 mw_979) rfl rfl rfl (by decide +kernel) ⟨Nat.le_of_ble_eq_true rfl, Nat.le_of_ble_eq_true rfl⟩) hK hP hD hS hA hZ (ci := 10) (q0 := 0) rfl rfl rfl hl.1 rfl (Nat.le_of_ble_eq_true rfl) dX10_order_40 ⟨Nat.zero_le _, Nat.zero_le _⟩ (fun H locs hP hD hS => ?_)
    refine lv_if_ne (tgt := 48) hx hb dX10_order_43 (by decide) (fun c6 => ?_) (fun c6 => ?_)
    · replace h := gx_f c6 h
      refine lv_iconst (v := 4) hx hb dX10_order_48 (by decide) ?_
      refine lv_iload_n hx hb dX10_order_49 rfl (lv_at hl 1 rfl) ?_
      refine lv_imul hx hb dX10_order_50 ?_
      refine lv_iload_n hx hb dX10_order_51 rfl (lv_at hl 2 rfl) ?_
      refine lv_iadd hx hb dX10_order_52 ?_
      obtain ⟨v7, ev7, h⟩ := gx_let h
      refine lv_topn ev7 ?_
      refine lv_istore (lv' := [(4, .int v7), (0, .ref (ad 0)), (1, .int p0), (2, .int p1), (3, .int p2)]) hx hb dX10_order_53 hl (by decide) rfl (fun ls hl => ?_)
      refine lv_aload_n hx hb dX10_order_55 rfl (lv_at hl 1 rfl) ?_
      refine va_get (D := D) (ci := 10) (v := .ref (ad 3)) (C := RX10) (T := TX10) (N := 32) hx hb hts iX10 hown hK hP 0 rfl rfl 8 (by decide) hf17 (fun _ h9 => h9) rfl dX10_order_56 ?_
      refine lv_iload hx hb dX10_order_59 (lv_at hl 0 rfl) ?_
      obtain ⟨b8, h⟩ := gx_in h
      refine va_iald (D := D) hx hb hK hP 3 0 rfl rfl b8 dX10_order_61 ?_
      obtain ⟨v9, ev9, h⟩ := gx_let h
      refine lv_topn ev9 ?_
      refine lv_istore (lv' := [(5, .int v9), (4, .int v7), (0, .ref (ad 0)), (1, .int p0), (2, .int p1), (3, .int p2)]) hx hb dX10_order_62 hl (by decide) rfl (fun ls hl => ?_)
      refine lv_aload_n hx hb dX10_order_64 rfl (lv_at hl 2 rfl) ?_
      refine va_get (D := D) (ci := 10) (v := .ref (ad 3)) (C := RX10) (T := TX10) (N := 32) hx hb hts iX10 hown hK hP 0 rfl rfl 8 (by decide) hf17 (fun _ h9 => h9) rfl dX10_order_65 ?_
      refine lv_iload hx hb dX10_order_68 (lv_at hl 1 rfl) ?_
      refine lv_iload_n hx hb dX10_order_70 rfl (lv_at hl 5 rfl) ?_
      obtain ⟨b10, h⟩ := gx_in h
      refine va_iast (D := D) hx hb hK hP hD hS 3 0 rfl rfl b10 dX10_order_71 (fun H locs hP hD hS => ?_)
      obtain ⟨u11, eu11, h⟩ := gx_let h
      replace hP : va_P D vwCl (wM cI cZ ad u11) H := by rw [← eu11]; exact hP
      replace hD : va_D A (wM cI cZ ad u11) := by rw [← eu11]; exact hD
      refine lv_iload hx hb dX10_order_72 (lv_at hl 0 rfl) ?_
      cases h
      exact cc_ret hx hb hr rfl hQ hK hP hD hS rfl dX10_order_74 hlocks
    · replace h := gx_t c6 h
      refine lv_iconst (v := 0) hx hb dX10_order_46 (by decide) ?_
      cases h
      exact cc_ret hx hb hr rfl hQ hK hP hD hS rfl dX10_order_47 hlocks
  refine lv_if_ne (tgt := 13) hx hb dX10_order_6 (by decide) (fun c12 => ?_) (fun c12 => ?_)
  · replace h := gx_f c12 h
    refine lv_iload_n hx hb dX10_order_13 rfl (lv_at hl 3 rfl) ?_
    refine lv_iconst (v := (-1)) hx hb dX10_order_14 (by decide) ?_
    refine lv_iconst (v := 2) hx hb dX10_order_15 (by decide) ?_
    obtain ⟨y13, hc14, h⟩ := gx_bind h
    refine cc_iS (As := [.int p2, .int (-1 : Int32), .int (2 : Int32)]) (rest := [.ref (ad 0)]) ⟨hx, hb, hml, hown, hts⟩ (k_X10_isIn l D cI cZ ad u p2 (-1 : Int32) (2 : Int32) hc14) (va_cwS 3 hts (gwS mw_860 mw_861 mw_59 mw_862) rfl rfl rfl (by decide +kernel) ⟨Nat.le_of_ble_eq_true rfl, Nat.le_of_ble_eq_true rfl⟩) hK hP hD hS hA hZ rfl hl.1 rfl (Nat.le_of_ble_eq_true rfl) dX10_order_16 ⟨Nat.zero_le _, Nat.zero_le _⟩ (fun H locs hP hD hS => ?_)
    refine lv_if_ne (tgt := 26) hx hb dX10_order_19 (by decide) (fun c15 => ?_) (fun c15 => ?_)
    · replace h := gx_f c15 h
      refine lv_iload_n hx hb dX10_order_26 rfl (lv_at hl 3 rfl) ?_
      refine lv_iconst (v := 2) hx hb dX10_order_27 (by decide) ?_
      obtain ⟨j39_16, ej39_16, h⟩ := gx_let h
      have hj39_16 : ∀ (H : Heap) (locs : List Loc) (ls : Array Slot), j39_16 () = some (r, w') → va_P D vwCl (wM cI cZ ad u) H → va_D A (wM cI cZ ad u) → va_S A s.heap H locs → lv_has ls 6 [(0, .ref (ad 0)), (1, .int p0), (2, .int p1), (3, .int p2)] → W p l e rX10_order s m ([.ref (ad 0), .int p0, .int p1, .int p2] : List Value).toArray below meth c H locs 0 0 Q (F0 m 39 ls [.ref (ad 0)]) := by
        intro  H locs ls h hP hD hS hl
        subst ej39_16
        refine lv_iconst (v := 0) hx hb dX10_order_39 (by decide) ?_
        exact hj40_3 (0 : Int32) _ _ _ h hP hD hS (lv_sub hl [0, 1, 2, 3] rfl)
      refine lv_icmp_ne (tgt := 39) hx hb dX10_order_28 (by decide) (fun c17 => ?_) (fun c17 => ?_)
      · replace h := gx_f c17 h
        exact hj39_16 _ _ _ h hP hD hS (lv_sub hl [0, 1, 2, 3] rfl)
      · replace h := gx_t c17 h
        refine lv_iload_n hx hb dX10_order_31 rfl (lv_at hl 1 rfl) ?_
        refine lv_if_ne (tgt := 39) hx hb dX10_order_32 (by decide) (fun c18 => ?_) (fun c18 => ?_)
        · replace h := gx_f c18 h
          exact hj39_16 _ _ _ h hP hD hS (lv_sub hl [0, 1, 2, 3] rfl)
        · replace h := gx_t c18 h
          refine lv_iconst (v := 3) hx hb dX10_order_35 (by decide) ?_
          refine lv_goto (tgt := 40) hx hb dX10_order_36 (by decide) ?_
          exact hj40_3 (3 : Int32) _ _ _ h hP hD hS (lv_sub hl [0, 1, 2, 3] rfl)
    · replace h := gx_t c15 h
      refine lv_iconst (v := 2) hx hb dX10_order_22 (by decide) ?_
      refine lv_goto (tgt := 40) hx hb dX10_order_23 (by decide) ?_
      exact hj40_3 (2 : Int32) _ _ _ h hP hD hS (lv_sub hl [0, 1, 2, 3] rfl)
  · replace h := gx_t c12 h
    refine lv_iconst (v := 1) hx hb dX10_order_9 (by decide) ?_
    refine lv_goto (tgt := 40) hx hb dX10_order_10 (by decide) ?_
    exact hj40_3 (1 : Int32) _ _ _ h hP hD hS (lv_sub hl [0, 1, 2, 3] rfl)

def rX10_sign : Room := { frames := 4, cells := 0, slots := 0, locals := 93 }
set_option maxHeartbeats 4000000 in
set_option maxRecDepth 100000 in
theorem k_X10_sign (l : Launch) (D : va_G) (cI cZ : ClassId) (ad : Nat → Nat) (u : MS) (p0 : Int32) (p1 : Int32) {r : Int32} {w' : MS} (h : g_X10_sign u p0 p1 = some (r, w')) : MI l yX10_sign (wm yX10_sign cX10_sign 3 (some .int)) rX10_sign D [(cI, .int), (cZ, .boolean)] (wM cI cZ ad u) (wM cI cZ ad w') [.ref (ad 0), .int p0, .int p1] r := by
  intro sz
  refine Met.ofW (cc := cX10_sign) (maxL := 3) (ret := (some .int)) (by decide) rfl ?_
  intro p e s m args below meth c s₁ B hml hv
  obtain ⟨rfl, hsz, hP, hK, hD0, hZ⟩ := hv
  have hx := B.exec
  have hb := B.bytes
  have hr := B.returns
  have hts : ∀ w ∈ Wall, w.before _ s = true := fun w hw => atoms_spec (ws := wm yX10_sign cX10_sign 3 (some .int)) B.pre w (List.mem_cons_of_mem _ hw)
  have hown : s.vm.findClass RX10 = some m.cls := findClass_of_methodNamed B.named
  have hlocks := B.notSynchronized
  subst hsz
  have hD := hD0.self (sz := s.heap.size)
  generalize hAe : va_A (wM cI cZ ad u) s.heap.size = A at hD hZ ⊢
  have hA : ∀ q : Nat, s.heap.size ≤ q → A q := fun q h => by rw [← hAe]; exact Or.inr h
  have hS : va_S A s.heap s.heap [] := va_S.rf
  have hl := lv_entry ([.ref (ad 0), .int p0, .int p1]) (n := 3) (Nat.le_of_ble_eq_true rfl)
  rw [lg_entry_eq]
  generalize (lg_sl ([.ref (ad 0), .int p0, .int p1]) ++ List.replicate (3 - (lg_sl ([.ref (ad 0), .int p0, .int p1])).length) Slot.unset).toArray = ls at hl ⊢
  replace hl : lv_has ls 3 [(0, .ref (ad 0)), (1, .int p0), (2, .int p1)] := hl
  refine w_gen (fun Q hQ => ?_)
  refine lv_aload_n hx hb dX10_sign_0 rfl (lv_at hl 0 rfl) ?_
  refine lv_iload_n hx hb dX10_sign_1 rfl (lv_at hl 1 rfl) ?_
  refine lv_iload_n hx hb dX10_sign_2 rfl (lv_at hl 2 rfl) ?_
  obtain ⟨y1, hc2, h⟩ := gx_bind h
  refine cc_iS (As := [.int p0, .int p1]) (rest := [.ref (ad 0)]) ⟨hx, hb, hml, hown, hts⟩ (k_X10_isPlace l D cI cZ ad u p0 p1 hc2) (va_cwS 2 hts (gwS mw_1036 mw_1037 mw_59 mw_1038) rfl rfl rfl (by decide +kernel) ⟨Nat.le_of_ble_eq_true rfl, Nat.le_of_ble_eq_true rfl⟩) hK hP hD hS hA hZ rfl hl.1 rfl (Nat.le_of_ble_eq_true rfl) dX10_sign_3 ⟨Nat.zero_le _, Nat.zero_le _⟩ (fun H locs hP hD hS => ?_)
  obtain ⟨j14_3, ej14_3, h⟩ := gx_let h
  have hj14_3 : ∀ (z0_14 : Int32) (H : Heap) (locs : List Loc) (ls : Array Slot), j14_3 z0_14 = some (r, w') → va_P D vwCl (wM cI cZ ad u) H → va_D A (wM cI cZ ad u) → va_S A s.heap H locs → lv_has ls 3 [(0, .ref (ad 0)), (1, .int p0), (2, .int p1)] → W p l e rX10_sign s m ([.ref (ad 0), .int p0, .int p1] : List Value).toArray below meth c H locs 0 0 Q (F0 m 14 ls [.int z0_14, .ref (ad 0)]) := by
    intro z0_14 H locs ls h hP hD hS hl
    subst ej14_3
    obtain ⟨y4, hc5, h⟩ := gx_bind h
    refine cc_iV (As := [.int z0_14]) (rest := []) ⟨hx, hb, hml, hown, hts⟩ (k_X10_holds l D cI cZ ad u z0_14 hc5) (cwV 1 hts (gwV mw_976 mw_978 mw_24 mw_59 mw_979) rfl rfl rfl (by decide +kernel) ⟨Nat.le_of_ble_eq_true rfl, Nat.le_of_ble_eq_true rfl⟩) hK hP hD hS hA hZ (ci := 10) (q0 := 0) rfl rfl rfl hl.1 rfl (Nat.le_of_ble_eq_true rfl) dX10_sign_14 ⟨Nat.zero_le _, Nat.zero_le _⟩ (fun H locs hP hD hS => ?_)
    refine lv_if_eq (tgt := 29) hx hb dX10_sign_17 (by decide) (fun c6 => ?_) (fun c6 => ?_)
    · replace h := gx_t c6 h
      refine lv_iconst (v := 0) hx hb dX10_sign_29 (by decide) ?_
      cases h
      exact cc_ret hx hb hr rfl hQ hK hP hD hS rfl dX10_sign_30 hlocks
    · replace h := gx_f c6 h
      refine lv_aload_n hx hb dX10_sign_20 rfl (lv_at hl 0 rfl) ?_
      refine lv_iload_n hx hb dX10_sign_21 rfl (lv_at hl 1 rfl) ?_
      refine lv_iload_n hx hb dX10_sign_22 rfl (lv_at hl 2 rfl) ?_
      obtain ⟨y7, hc8, h⟩ := gx_bind h
      refine cc_iV (As := [.int p0, .int p1]) (rest := []) ⟨hx, hb, hml, hown, hts⟩ (k_X10_signOf l D cI cZ ad y4.2 p0 p1 hc8) (cwV 2 hts (gwV mw_848 mw_850 mw_19 mw_59 mw_851) rfl rfl rfl (by decide +kernel) ⟨Nat.le_of_ble_eq_true rfl, Nat.le_of_ble_eq_true rfl⟩) hK hP hD hS hA hZ (ci := 10) (q0 := 0) rfl rfl rfl hl.1 rfl (Nat.le_of_ble_eq_true rfl) dX10_sign_23 ⟨Nat.zero_le _, Nat.zero_le _⟩ (fun H locs hP hD hS => ?_)
      refine lv_goto (tgt := 30) hx hb dX10_sign_26 (by decide) ?_
      cases h
      exact cc_ret hx hb hr rfl hQ hK hP hD hS rfl dX10_sign_30 hlocks
  refine lv_if_eq (tgt := 13) hx hb dX10_sign_6 (by decide) (fun c9 => ?_) (fun c9 => ?_)
  · replace h := gx_t c9 h
    refine lv_iconst (v := 1) hx hb dX10_sign_13 (by decide) ?_
    exact hj14_3 (1 : Int32) _ _ _ h hP hD hS (lv_sub hl [0, 1, 2] rfl)
  · replace h := gx_f c9 h
    refine lv_iconst (v := 0) hx hb dX10_sign_9 (by decide) ?_
    refine lv_goto (tgt := 14) hx hb dX10_sign_10 (by decide) ?_
    exact hj14_3 (0 : Int32) _ _ _ h hP hD hS (lv_sub hl [0, 1, 2] rfl)

def rX10_isLawful : Room := { frames := 4, cells := 0, slots := 0, locals := 93 }
set_option maxHeartbeats 4000000 in
set_option maxRecDepth 100000 in
theorem k_X10_isLawful (l : Launch) (D : va_G) (cI cZ : ClassId) (ad : Nat → Nat) (u : MS) {r : Int32} {w' : MS} (h : g_X10_isLawful u = some (r, w')) : MI l yX10_isLawful (wm yX10_isLawful cX10_isLawful 4 (some .boolean)) rX10_isLawful D [(cI, .int), (cZ, .boolean)] (wM cI cZ ad u) (wM cI cZ ad w') [.ref (ad 0)] r := by
  intro sz
  refine Met.ofW (cc := cX10_isLawful) (maxL := 4) (ret := (some .boolean)) (by decide) rfl ?_
  intro p e s m args below meth c s₁ B hml hv
  obtain ⟨rfl, hsz, hP, hK, hD0, hZ⟩ := hv
  have hx := B.exec
  have hb := B.bytes
  have hr := B.returns
  have hts : ∀ w ∈ Wall, w.before _ s = true := fun w hw => atoms_spec (ws := wm yX10_isLawful cX10_isLawful 4 (some .boolean)) B.pre w (List.mem_cons_of_mem _ hw)
  have hown : s.vm.findClass RX10 = some m.cls := findClass_of_methodNamed B.named
  have hlocks := B.notSynchronized
  subst hsz
  have hD := hD0.self (sz := s.heap.size)
  generalize hAe : va_A (wM cI cZ ad u) s.heap.size = A at hD hZ ⊢
  have hA : ∀ q : Nat, s.heap.size ≤ q → A q := fun q h => by rw [← hAe]; exact Or.inr h
  have hS : va_S A s.heap s.heap [] := va_S.rf
  have hf83 := hts _ mw_871
  have hf41 := hts _ mw_887
  have hl := lv_entry ([.ref (ad 0)]) (n := 4) (Nat.le_of_ble_eq_true rfl)
  rw [lg_entry_eq]
  generalize (lg_sl ([.ref (ad 0)]) ++ List.replicate (4 - (lg_sl ([.ref (ad 0)])).length) Slot.unset).toArray = ls at hl ⊢
  replace hl : lv_has ls 4 [(0, .ref (ad 0))] := hl
  refine w_gen (fun Q hQ => ?_)
  refine lv_aload_n hx hb dX10_isLawful_0 rfl (lv_at hl 0 rfl) ?_
  refine lv_iconst (v := 0) hx hb dX10_isLawful_1 (by decide) ?_
  refine va_put (D := D) (ci := 10) (v := .int (0 : Int32)) (ty := .int) (C := RX10) (T := TX10) (N := 32) hx hb hts iX10 tyX10 tyX10_ok nmX10 hown hK hP hD hS 0 rfl rfl 0 (by decide) hf83 (fun _ h9 => h9) rfl (by decide +kernel) rfl rfl (Nat.le_of_ble_eq_true rfl) dX10_isLawful_2 (fun H locs hP hD hS => ?_)
  obtain ⟨u1, eu1, h⟩ := gx_let h
  replace hP : va_P D vwCl (wM cI cZ ad u1) H := by rw [← eu1]; exact hP
  replace hD : va_D A (wM cI cZ ad u1) := by rw [← eu1]; exact hD
  refine lv_iconst (v := 1) hx hb dX10_isLawful_5 (by decide) ?_
  refine lv_istore_n (lv' := [(1, .int (1 : Int32)), (0, .ref (ad 0))]) hx hb dX10_isLawful_6 rfl hl (by decide) rfl (fun ls hl => ?_)
  refine lv_iconst (v := 0) hx hb dX10_isLawful_7 (by decide) ?_
  refine lv_istore_n (lv' := [(2, .int (0 : Int32)), (1, .int (1 : Int32)), (0, .ref (ad 0))]) hx hb dX10_isLawful_8 rfl hl (by decide) rfl (fun ls hl => ?_)
  have hL9 : ∀ (k : Int32 → Option (Int32 × MS)) (hk : ∀ (x1_9 : Int32) (H : Heap) (locs : List Loc) (ls : Array Slot), k x1_9 = some (r, w') → va_P D vwCl (wM cI cZ ad u1) H → va_D A (wM cI cZ ad u1) → va_S A s.heap H locs → lv_has ls 4 [(1, .int x1_9)] → W p l e rX10_isLawful s m ([.ref (ad 0)] : List Value).toArray below meth c H locs 0 0 Q (F0 m 95 ls [])) (n : Nat) (x1_9 : Int32) (x2_9 : Int32) (H : Heap) (locs : List Loc) (ls : Array Slot), lp_X10_isLawful_9 u1 k n x1_9 x2_9 = some (r, w') → va_P D vwCl (wM cI cZ ad u1) H → va_D A (wM cI cZ ad u1) → va_S A s.heap H locs → lv_has ls 4 [(0, .ref (ad 0)), (1, .int x1_9), (2, .int x2_9)] → W p l e rX10_isLawful s m ([.ref (ad 0)] : List Value).toArray below meth c H locs 0 0 Q (F0 m 9 ls []) := by
    intro k hk n
    induction n with
    | zero =>
      intro x1_9 x2_9 H locs ls h
      rw [lp_X10_isLawful_9] at h
      cases h
    | succ n ih =>
      intro x1_9 x2_9 H locs ls h hP hD hS hl
      rw [lp_X10_isLawful_9] at h
      refine lv_iload_n hx hb dX10_isLawful_9 rfl (lv_at hl 2 rfl) ?_
      refine lv_bipush (v := 11) hx hb dX10_isLawful_10 (by decide) ?_
      refine lv_icmp_ge (tgt := 95) hx hb dX10_isLawful_12 (by decide) (fun c2 => ?_) (fun c2 => ?_)
      · replace h := gx_t c2 h
        exact hk x1_9 _ _ _ h hP hD hS (lv_sub hl [1] rfl)
      · replace h := gx_f c2 h
        refine lv_iload_n hx hb dX10_isLawful_15 rfl (lv_at hl 1 rfl) ?_
        obtain ⟨j44_3, ej44_3, h⟩ := gx_let h
        have hj44_3 : ∀ (z0_44 : Int32) (H : Heap) (locs : List Loc) (ls : Array Slot), j44_3 z0_44 = some (r, w') → va_P D vwCl (wM cI cZ ad u1) H → va_D A (wM cI cZ ad u1) → va_S A s.heap H locs → lv_has ls 4 [(0, .ref (ad 0)), (2, .int x2_9)] → W p l e rX10_isLawful s m ([.ref (ad 0)] : List Value).toArray below meth c H locs 0 0 Q (F0 m 44 ls [.int z0_44]) := by
          intro z0_44 H locs ls h hP hD hS hl
          subst ej44_3
          refine lv_istore_n (lv' := [(1, .int z0_44), (0, .ref (ad 0)), (2, .int x2_9)]) hx hb dX10_isLawful_44 rfl hl (by decide) rfl (fun ls hl => ?_)
          refine lv_iconst (v := 0) hx hb dX10_isLawful_45 (by decide) ?_
          refine lv_istore_n (lv' := [(3, .int (0 : Int32)), (1, .int z0_44), (0, .ref (ad 0)), (2, .int x2_9)]) hx hb dX10_isLawful_46 rfl hl (by decide) rfl (fun ls hl => ?_)
          have hL47 : ∀ (k : Int32 → Option (Int32 × MS)) (hk : ∀ (x1_47 : Int32) (H : Heap) (locs : List Loc) (ls : Array Slot), k x1_47 = some (r, w') → va_P D vwCl (wM cI cZ ad u1) H → va_D A (wM cI cZ ad u1) → va_S A s.heap H locs → lv_has ls 4 [(0, .ref (ad 0)), (1, .int x1_47), (2, .int x2_9)] → W p l e rX10_isLawful s m ([.ref (ad 0)] : List Value).toArray below meth c H locs 0 0 Q (F0 m 89 ls [])) (n : Nat) (x1_47 : Int32) (x3_47 : Int32) (H : Heap) (locs : List Loc) (ls : Array Slot), lp_X10_isLawful_47 u1 x2_9 k n x1_47 x3_47 = some (r, w') → va_P D vwCl (wM cI cZ ad u1) H → va_D A (wM cI cZ ad u1) → va_S A s.heap H locs → lv_has ls 4 [(0, .ref (ad 0)), (1, .int x1_47), (2, .int x2_9), (3, .int x3_47)] → W p l e rX10_isLawful s m ([.ref (ad 0)] : List Value).toArray below meth c H locs 0 0 Q (F0 m 47 ls []) := by
            intro k hk n
            induction n with
            | zero =>
              intro x1_47 x3_47 H locs ls h
              rw [lp_X10_isLawful_47] at h
              cases h
            | succ n ih =>
              intro x1_47 x3_47 H locs ls h hP hD hS hl
              rw [lp_X10_isLawful_47] at h
              refine lv_iload_n hx hb dX10_isLawful_47 rfl (lv_at hl 3 rfl) ?_
              refine lv_iconst (v := 4) hx hb dX10_isLawful_48 (by decide) ?_
              refine lv_icmp_ge (tgt := 89) hx hb dX10_isLawful_49 (by decide) (fun c4 => ?_) (fun c4 => ?_)
              · replace h := gx_t c4 h
                exact hk x1_47 _ _ _ h hP hD hS (lv_sub hl [0, 1, 2] rfl)
              · replace h := gx_f c4 h
                refine lv_iload_n hx hb dX10_isLawful_52 rfl (lv_at hl 1 rfl) ?_
                obtain ⟨j82_5, ej82_5, h⟩ := gx_let h
                have hj82_5 : ∀ (z0_82 : Int32) (H : Heap) (locs : List Loc) (ls : Array Slot), j82_5 z0_82 = some (r, w') → va_P D vwCl (wM cI cZ ad u1) H → va_D A (wM cI cZ ad u1) → va_S A s.heap H locs → lv_has ls 4 [(0, .ref (ad 0)), (2, .int x2_9), (3, .int x3_47)] → W p l e rX10_isLawful s m ([.ref (ad 0)] : List Value).toArray below meth c H locs 0 0 Q (F0 m 82 ls [.int z0_82]) := by
                  intro z0_82 H locs ls h hP hD hS hl
                  subst ej82_5
                  refine lv_istore_n (lv' := [(1, .int z0_82), (0, .ref (ad 0)), (2, .int x2_9), (3, .int x3_47)]) hx hb dX10_isLawful_82 rfl hl (by decide) rfl (fun ls hl => ?_)
                  obtain ⟨v6, ev6, h⟩ := gx_let h
                  refine lv_iinc (v := v6) (lv' := [(3, .int v6), (1, .int z0_82), (0, .ref (ad 0)), (2, .int x2_9)]) hx hb dX10_isLawful_83 hl (k := 3) rfl (by rw [← ev6]; rfl) (by decide) rfl (fun ls hl => ?_)
                  refine lv_goto (tgt := 47) hx hb dX10_isLawful_86 (by decide) ?_
                  exact ih z0_82 v6 _ _ _ h hP hD hS (lv_sub hl [2, 1, 3, 0] rfl)
                obtain ⟨j81_7, ej81_7, h⟩ := gx_let h
                have hj81_7 : ∀ (H : Heap) (locs : List Loc) (ls : Array Slot), j81_7 () = some (r, w') → va_P D vwCl (wM cI cZ ad u1) H → va_D A (wM cI cZ ad u1) → va_S A s.heap H locs → lv_has ls 4 [(0, .ref (ad 0)), (2, .int x2_9), (3, .int x3_47)] → W p l e rX10_isLawful s m ([.ref (ad 0)] : List Value).toArray below meth c H locs 0 0 Q (F0 m 81 ls []) := by
                  intro  H locs ls h hP hD hS hl
                  subst ej81_7
                  refine lv_iconst (v := 0) hx hb dX10_isLawful_81 (by decide) ?_
                  exact hj82_5 (0 : Int32) _ _ _ h hP hD hS (lv_sub hl [0, 1, 2] rfl)
                refine lv_if_eq (tgt := 81) hx hb dX10_isLawful_53 (by decide) (fun c8 => ?_) (fun c8 => ?_)
                · replace h := gx_t c8 h
                  exact hj81_7 _ _ _ h hP hD hS (lv_sub hl [0, 2, 3] rfl)
                · replace h := gx_f c8 h
                  refine lv_aload_n hx hb dX10_isLawful_56 rfl (lv_at hl 0 rfl) ?_
                  refine lv_iload_n hx hb dX10_isLawful_57 rfl (lv_at hl 2 rfl) ?_
                  refine lv_iconst (v := 1) hx hb dX10_isLawful_58 (by decide) ?_
                  refine lv_iadd hx hb dX10_isLawful_59 ?_
                  refine lv_iload_n hx hb dX10_isLawful_60 rfl (lv_at hl 3 rfl) ?_
                  obtain ⟨y9, hc10, h⟩ := gx_bind h
                  refine cc_iV (As := [.int (x2_9 + (1 : Int32)), .int x3_47]) (rest := []) ⟨hx, hb, hml, hown, hts⟩ (k_X10_signOf l D cI cZ ad u1 (x2_9 + (1 : Int32)) x3_47 hc10) (cwV 2 hts (gwV mw_848 mw_850 mw_19 mw_59 mw_851) rfl rfl rfl (by decide +kernel) ⟨Nat.le_of_ble_eq_true rfl, Nat.le_of_ble_eq_true rfl⟩) hK hP hD hS hA hZ (ci := 10) (q0 := 0) rfl rfl rfl hl.1 rfl (Nat.le_of_ble_eq_true rfl) dX10_isLawful_61 ⟨Nat.zero_le _, Nat.zero_le _⟩ (fun H locs hP hD hS => ?_)
                  refine lv_iconst (v := 2) hx hb dX10_isLawful_64 (by decide) ?_
                  obtain ⟨j77_11, ej77_11, h⟩ := gx_let h
                  have hj77_11 : ∀ (H : Heap) (locs : List Loc) (ls : Array Slot), j77_11 () = some (r, w') → va_P D vwCl (wM cI cZ ad u1) H → va_D A (wM cI cZ ad u1) → va_S A s.heap H locs → lv_has ls 4 [(0, .ref (ad 0)), (2, .int x2_9), (3, .int x3_47)] → W p l e rX10_isLawful s m ([.ref (ad 0)] : List Value).toArray below meth c H locs 0 0 Q (F0 m 77 ls []) := by
                    intro  H locs ls h hP hD hS hl
                    subst ej77_11
                    refine lv_iconst (v := 1) hx hb dX10_isLawful_77 (by decide) ?_
                    refine lv_goto (tgt := 82) hx hb dX10_isLawful_78 (by decide) ?_
                    exact hj82_5 (1 : Int32) _ _ _ h hP hD hS (lv_sub hl [0, 1, 2] rfl)
                  refine lv_icmp_ne (tgt := 77) hx hb dX10_isLawful_65 (by decide) (fun c12 => ?_) (fun c12 => ?_)
                  · replace h := gx_f c12 h
                    exact hj77_11 _ _ _ h hP hD hS (lv_sub hl [0, 2, 3] rfl)
                  · replace h := gx_t c12 h
                    refine lv_aload_n hx hb dX10_isLawful_68 rfl (lv_at hl 0 rfl) ?_
                    refine lv_iload_n hx hb dX10_isLawful_69 rfl (lv_at hl 2 rfl) ?_
                    refine lv_iload_n hx hb dX10_isLawful_70 rfl (lv_at hl 3 rfl) ?_
                    obtain ⟨y13, hc14, h⟩ := gx_bind h
                    refine cc_iV (As := [.int x2_9, .int x3_47]) (rest := []) ⟨hx, hb, hml, hown, hts⟩ (k_X10_signOf l D cI cZ ad u1 x2_9 x3_47 hc14) (cwV 2 hts (gwV mw_848 mw_850 mw_19 mw_59 mw_851) rfl rfl rfl (by decide +kernel) ⟨Nat.le_of_ble_eq_true rfl, Nat.le_of_ble_eq_true rfl⟩) hK hP hD hS hA hZ (ci := 10) (q0 := 0) rfl rfl rfl hl.1 rfl (Nat.le_of_ble_eq_true rfl) dX10_isLawful_71 ⟨Nat.zero_le _, Nat.zero_le _⟩ (fun H locs hP hD hS => ?_)
                    refine lv_if_eq (tgt := 81) hx hb dX10_isLawful_74 (by decide) (fun c15 => ?_) (fun c15 => ?_)
                    · replace h := gx_t c15 h
                      exact hj81_7 _ _ _ h hP hD hS (lv_sub hl [0, 2, 3] rfl)
                    · replace h := gx_f c15 h
                      exact hj77_11 _ _ _ h hP hD hS (lv_sub hl [0, 2, 3] rfl)
          refine hL47 _ (fun x1_47 H locs ls h hP hD hS hl => ?_) FU z0_44 (0 : Int32) _ _ _ h hP hD hS (lv_sub hl [2, 1, 3, 0] rfl)
          obtain ⟨v16, ev16, h⟩ := gx_let h
          refine lv_iinc (v := v16) (lv' := [(2, .int v16), (0, .ref (ad 0)), (1, .int x1_47)]) hx hb dX10_isLawful_89 hl (k := 2) rfl (by rw [← ev16]; rfl) (by decide) rfl (fun ls hl => ?_)
          refine lv_goto (tgt := 9) hx hb dX10_isLawful_92 (by decide) ?_
          exact ih x1_47 v16 _ _ _ h hP hD hS (lv_sub hl [1, 2, 0] rfl)
        obtain ⟨j43_17, ej43_17, h⟩ := gx_let h
        have hj43_17 : ∀ (H : Heap) (locs : List Loc) (ls : Array Slot), j43_17 () = some (r, w') → va_P D vwCl (wM cI cZ ad u1) H → va_D A (wM cI cZ ad u1) → va_S A s.heap H locs → lv_has ls 4 [(0, .ref (ad 0)), (2, .int x2_9)] → W p l e rX10_isLawful s m ([.ref (ad 0)] : List Value).toArray below meth c H locs 0 0 Q (F0 m 43 ls []) := by
          intro  H locs ls h hP hD hS hl
          subst ej43_17
          refine lv_iconst (v := 0) hx hb dX10_isLawful_43 (by decide) ?_
          exact hj44_3 (0 : Int32) _ _ _ h hP hD hS (lv_sub hl [0, 1] rfl)
        refine lv_if_eq (tgt := 43) hx hb dX10_isLawful_16 (by decide) (fun c18 => ?_) (fun c18 => ?_)
        · replace h := gx_t c18 h
          exact hj43_17 _ _ _ h hP hD hS (lv_sub hl [0, 2] rfl)
        · replace h := gx_f c18 h
          refine lv_aload_n hx hb dX10_isLawful_19 rfl (lv_at hl 0 rfl) ?_
          refine va_get (D := D) (ci := 10) (v := .ref (ad 11)) (C := RX10) (T := TX10) (N := 32) hx hb hts iX10 hown hK hP 0 rfl rfl 16 (by decide) hf41 (fun _ h9 => h9) rfl dX10_isLawful_20 ?_
          refine lv_iload_n hx hb dX10_isLawful_23 rfl (lv_at hl 2 rfl) ?_
          obtain ⟨b19, h⟩ := gx_in h
          refine va_iald (D := D) hx hb hK hP 11 0 rfl rfl b19 dX10_isLawful_24 ?_
          refine lv_aload_n hx hb dX10_isLawful_25 rfl (lv_at hl 0 rfl) ?_
          refine va_get (D := D) (ci := 10) (v := .ref (ad 11)) (C := RX10) (T := TX10) (N := 32) hx hb hts iX10 hown hK hP 0 rfl rfl 16 (by decide) hf41 (fun _ h9 => h9) rfl dX10_isLawful_26 ?_
          refine lv_iload_n hx hb dX10_isLawful_29 rfl (lv_at hl 2 rfl) ?_
          refine lv_iconst (v := 1) hx hb dX10_isLawful_30 (by decide) ?_
          refine lv_iadd hx hb dX10_isLawful_31 ?_
          obtain ⟨b20, h⟩ := gx_in h
          refine va_iald (D := D) hx hb hK hP 11 0 rfl rfl b20 dX10_isLawful_32 ?_
          refine lv_bipush (v := 20) hx hb dX10_isLawful_33 (by decide) ?_
          refine lv_iadd hx hb dX10_isLawful_35 ?_
          refine lv_icmp_gt (tgt := 43) hx hb dX10_isLawful_36 (by decide) (fun c21 => ?_) (fun c21 => ?_)
          · replace h := gx_t c21 h
            exact hj43_17 _ _ _ h hP hD hS (lv_sub hl [0, 2] rfl)
          · replace h := gx_f c21 h
            refine lv_iconst (v := 1) hx hb dX10_isLawful_39 (by decide) ?_
            refine lv_goto (tgt := 44) hx hb dX10_isLawful_40 (by decide) ?_
            exact hj44_3 (1 : Int32) _ _ _ h hP hD hS (lv_sub hl [0, 2] rfl)
  refine hL9 _ (fun x1_9 H locs ls h hP hD hS hl => ?_) FU (1 : Int32) (0 : Int32) _ _ _ h hP hD hS (lv_sub hl [2, 1, 0] rfl)
  refine lv_iload_n hx hb dX10_isLawful_95 rfl (lv_at hl 0 rfl) ?_
  obtain ⟨bo, h⟩ := gx_bo h
  cases h
  exact cc_ret hx hb hr bo hQ hK hP hD hS rfl dX10_isLawful_96 hlocks

def rX10_look : Room := { frames := 2, cells := 0, slots := 0, locals := 42 }
set_option maxHeartbeats 4000000 in
set_option maxRecDepth 100000 in
theorem k_X10_look (l : Launch) (D : va_G) (cI cZ : ClassId) (ad : Nat → Nat) (u : MS) (p0 : Int32) {r : Int32} {w' : MS} (h : g_X10_look u p0 = some (r, w')) : MI l yX10_look (wm yX10_look cX10_look 2 (some .boolean)) rX10_look D [(cI, .int), (cZ, .boolean)] (wM cI cZ ad u) (wM cI cZ ad w') [.ref (ad 0), .int p0] r := by
  intro sz
  refine Met.ofW (cc := cX10_look) (maxL := 2) (ret := (some .boolean)) (by decide) rfl ?_
  intro p e s m args below meth c s₁ B hml hv
  obtain ⟨rfl, hsz, hP, hK, hD0, hZ⟩ := hv
  have hx := B.exec
  have hb := B.bytes
  have hr := B.returns
  have hts : ∀ w ∈ Wall, w.before _ s = true := fun w hw => atoms_spec (ws := wm yX10_look cX10_look 2 (some .boolean)) B.pre w (List.mem_cons_of_mem _ hw)
  have hown : s.vm.findClass RX10 = some m.cls := findClass_of_methodNamed B.named
  have hlocks := B.notSynchronized
  subst hsz
  have hD := hD0.self (sz := s.heap.size)
  generalize hAe : va_A (wM cI cZ ad u) s.heap.size = A at hD hZ ⊢
  have hA : ∀ q : Nat, s.heap.size ≤ q → A q := fun q h => by rw [← hAe]; exact Or.inr h
  have hS : va_S A s.heap s.heap [] := va_S.rf
  have hf26 := hts _ mw_882
  have hf95 := hts _ mw_872
  have hf29 := hts _ mw_883
  have hf13 := hts _ mw_878
  have hf7 := hts _ mw_877
  have hl := lv_entry ([.ref (ad 0), .int p0]) (n := 2) (Nat.le_of_ble_eq_true rfl)
  rw [lg_entry_eq]
  generalize (lg_sl ([.ref (ad 0), .int p0]) ++ List.replicate (2 - (lg_sl ([.ref (ad 0), .int p0])).length) Slot.unset).toArray = ls at hl ⊢
  replace hl : lv_has ls 2 [(0, .ref (ad 0)), (1, .int p0)] := hl
  refine w_gen (fun Q hQ => ?_)
  refine lv_aload_n hx hb dX10_look_0 rfl (lv_at hl 0 rfl) ?_
  refine lv_iload_n hx hb dX10_look_1 rfl (lv_at hl 1 rfl) ?_
  obtain ⟨y1, hc2, h⟩ := gx_bind h
  refine cc_iS (As := [.int p0]) (rest := [.ref (ad 0)]) ⟨hx, hb, hml, hown, hts⟩ (k_X10_isSection l D cI cZ ad u p0 hc2) (va_cwS 1 hts (gwS mw_1039 mw_1040 mw_59 mw_1041) rfl rfl rfl (by decide +kernel) ⟨Nat.le_of_ble_eq_true rfl, Nat.le_of_ble_eq_true rfl⟩) hK hP hD hS hA hZ rfl hl.1 rfl (Nat.le_of_ble_eq_true rfl) dX10_look_2 ⟨Nat.zero_le _, Nat.zero_le _⟩ (fun H locs hP hD hS => ?_)
  obtain ⟨j13_3, ej13_3, h⟩ := gx_let h
  have hj13_3 : ∀ (z0_13 : Int32) (H : Heap) (locs : List Loc) (ls : Array Slot), j13_3 z0_13 = some (r, w') → va_P D vwCl (wM cI cZ ad u) H → va_D A (wM cI cZ ad u) → va_S A s.heap H locs → lv_has ls 2 [(0, .ref (ad 0)), (1, .int p0)] → W p l e rX10_look s m ([.ref (ad 0), .int p0] : List Value).toArray below meth c H locs 0 0 Q (F0 m 13 ls [.int z0_13, .ref (ad 0)]) := by
    intro z0_13 H locs ls h hP hD hS hl
    subst ej13_3
    obtain ⟨y4, hc5, h⟩ := gx_bind h
    refine cc_iV (As := [.int z0_13]) (rest := []) ⟨hx, hb, hml, hown, hts⟩ (k_X10_holds l D cI cZ ad u z0_13 hc5) (cwV 1 hts (gwV mw_976 mw_978 mw_24 mw_59 mw_979) rfl rfl rfl (by decide +kernel) ⟨Nat.le_of_ble_eq_true rfl, Nat.le_of_ble_eq_true rfl⟩) hK hP hD hS hA hZ (ci := 10) (q0 := 0) rfl rfl rfl hl.1 rfl (Nat.le_of_ble_eq_true rfl) dX10_look_13 ⟨Nat.zero_le _, Nat.zero_le _⟩ (fun H locs hP hD hS => ?_)
    refine lv_if_ne (tgt := 21) hx hb dX10_look_16 (by decide) (fun c6 => ?_) (fun c6 => ?_)
    · replace h := gx_f c6 h
      refine lv_aload_n hx hb dX10_look_21 rfl (lv_at hl 0 rfl) ?_
      refine va_get (D := D) (ci := 10) (v := .ref (ad 6)) (C := RX10) (T := TX10) (N := 32) hx hb hts iX10 hown hK hP 0 rfl rfl 11 (by decide) hf26 (fun _ h9 => h9) rfl dX10_look_22 ?_
      refine lv_iload_n hx hb dX10_look_25 rfl (lv_at hl 1 rfl) ?_
      refine lv_aload_n hx hb dX10_look_26 rfl (lv_at hl 0 rfl) ?_
      refine va_get (D := D) (ci := 10) (v := .int (m_now y4.2)) (C := RX10) (T := TX10) (N := 32) hx hb hts iX10 hown hK hP 0 rfl rfl 1 (by decide) hf95 (fun _ h9 => h9) rfl dX10_look_27 ?_
      obtain ⟨b7, h⟩ := gx_in h
      refine va_iast (D := D) hx hb hK hP hD hS 6 0 rfl rfl b7 dX10_look_30 (fun H locs hP hD hS => ?_)
      obtain ⟨u8, eu8, h⟩ := gx_let h
      replace hP : va_P D vwCl (wM cI cZ ad u8) H := by rw [← eu8]; exact hP
      replace hD : va_D A (wM cI cZ ad u8) := by rw [← eu8]; exact hD
      refine lv_aload_n hx hb dX10_look_31 rfl (lv_at hl 0 rfl) ?_
      refine va_get (D := D) (ci := 10) (v := .ref (ad 7)) (C := RX10) (T := TX10) (N := 32) hx hb hts iX10 hown hK hP 0 rfl rfl 12 (by decide) hf29 (fun _ h9 => h9) rfl dX10_look_32 ?_
      refine lv_iload_n hx hb dX10_look_35 rfl (lv_at hl 1 rfl) ?_
      refine lv_aload_n hx hb dX10_look_36 rfl (lv_at hl 0 rfl) ?_
      refine va_get (D := D) (ci := 10) (v := .ref (ad 2)) (C := RX10) (T := TX10) (N := 32) hx hb hts iX10 hown hK hP 0 rfl rfl 7 (by decide) hf13 (fun _ h9 => h9) rfl dX10_look_37 ?_
      refine lv_iconst (v := 4) hx hb dX10_look_40 (by decide) ?_
      refine lv_iload_n hx hb dX10_look_41 rfl (lv_at hl 1 rfl) ?_
      refine lv_imul hx hb dX10_look_42 ?_
      obtain ⟨b9, h⟩ := gx_in h
      refine va_zald (D := D) hx hb hK hP 2 1 rfl rfl b9 dX10_look_43 ?_
      obtain ⟨j63_10, ej63_10, h⟩ := gx_let h
      have hj63_10 : ∀ (z0_63 : Int32) (H : Heap) (locs : List Loc) (ls : Array Slot), j63_10 z0_63 = some (r, w') → va_P D vwCl (wM cI cZ ad u8) H → va_D A (wM cI cZ ad u8) → va_S A s.heap H locs → lv_has ls 2 [(0, .ref (ad 0)), (1, .int p0)] → W p l e rX10_look s m ([.ref (ad 0), .int p0] : List Value).toArray below meth c H locs 0 0 Q (F0 m 63 ls [.int z0_63, .int p0, .ref (ad 7)]) := by
        intro z0_63 H locs ls h hP hD hS hl
        subst ej63_10
        obtain ⟨b11, h⟩ := gx_in h
        refine va_zast (D := D) hx hb hK hP hD hS 7 1 rfl rfl b11 dX10_look_63 (fun H locs hP hD hS => ?_)
        obtain ⟨u12, eu12, h⟩ := gx_let h
        replace hP : va_P D vwCl (wM cI cZ ad u12) H := by rw [← eu12]; exact hP
        replace hD : va_D A (wM cI cZ ad u12) := by rw [← eu12]; exact hD
        refine lv_aload_n hx hb dX10_look_64 rfl (lv_at hl 0 rfl) ?_
        refine va_get (D := D) (ci := 10) (v := .ref (ad 7)) (C := RX10) (T := TX10) (N := 32) hx hb hts iX10 hown hK hP 0 rfl rfl 12 (by decide) hf29 (fun _ h9 => h9) rfl dX10_look_65 ?_
        refine lv_iload_n hx hb dX10_look_68 rfl (lv_at hl 1 rfl) ?_
        obtain ⟨b13, h⟩ := gx_in h
        refine va_zald (D := D) hx hb hK hP 7 1 rfl rfl b13 dX10_look_69 ?_
        obtain ⟨bo, h⟩ := gx_bo h
        cases h
        exact cc_ret hx hb hr bo hQ hK hP hD hS rfl dX10_look_70 hlocks
      obtain ⟨j62_14, ej62_14, h⟩ := gx_let h
      have hj62_14 : ∀ (H : Heap) (locs : List Loc) (ls : Array Slot), j62_14 () = some (r, w') → va_P D vwCl (wM cI cZ ad u8) H → va_D A (wM cI cZ ad u8) → va_S A s.heap H locs → lv_has ls 2 [(0, .ref (ad 0)), (1, .int p0)] → W p l e rX10_look s m ([.ref (ad 0), .int p0] : List Value).toArray below meth c H locs 0 0 Q (F0 m 62 ls [.int p0, .ref (ad 7)]) := by
        intro  H locs ls h hP hD hS hl
        subst ej62_14
        refine lv_iconst (v := 0) hx hb dX10_look_62 (by decide) ?_
        exact hj63_10 (0 : Int32) _ _ _ h hP hD hS (lv_sub hl [0, 1] rfl)
      refine lv_if_ne (tgt := 62) hx hb dX10_look_44 (by decide) (fun c15 => ?_) (fun c15 => ?_)
      · replace h := gx_f c15 h
        exact hj62_14 _ _ _ h hP hD hS (lv_sub hl [0, 1] rfl)
      · replace h := gx_t c15 h
        refine lv_aload_n hx hb dX10_look_47 rfl (lv_at hl 0 rfl) ?_
        refine va_get (D := D) (ci := 10) (v := .ref (ad 1)) (C := RX10) (T := TX10) (N := 32) hx hb hts iX10 hown hK hP 0 rfl rfl 6 (by decide) hf7 (fun _ h9 => h9) rfl dX10_look_48 ?_
        refine lv_iconst (v := 4) hx hb dX10_look_51 (by decide) ?_
        refine lv_iload_n hx hb dX10_look_52 rfl (lv_at hl 1 rfl) ?_
        refine lv_imul hx hb dX10_look_53 ?_
        obtain ⟨b16, h⟩ := gx_in h
        refine va_iald (D := D) hx hb hK hP 1 0 rfl rfl b16 dX10_look_54 ?_
        refine lv_if_ne (tgt := 62) hx hb dX10_look_55 (by decide) (fun c17 => ?_) (fun c17 => ?_)
        · replace h := gx_f c17 h
          exact hj62_14 _ _ _ h hP hD hS (lv_sub hl [0, 1] rfl)
        · replace h := gx_t c17 h
          refine lv_iconst (v := 1) hx hb dX10_look_58 (by decide) ?_
          refine lv_goto (tgt := 63) hx hb dX10_look_59 (by decide) ?_
          exact hj63_10 (1 : Int32) _ _ _ h hP hD hS (lv_sub hl [0, 1] rfl)
    · replace h := gx_t c6 h
      refine lv_iconst (v := 0) hx hb dX10_look_19 (by decide) ?_
      cases h
      exact cc_ret hx hb hr rfl hQ hK hP hD hS rfl dX10_look_20 hlocks
  refine lv_if_eq (tgt := 12) hx hb dX10_look_5 (by decide) (fun c18 => ?_) (fun c18 => ?_)
  · replace h := gx_t c18 h
    refine lv_iconst (v := 1) hx hb dX10_look_12 (by decide) ?_
    exact hj13_3 (1 : Int32) _ _ _ h hP hD hS (lv_sub hl [0, 1] rfl)
  · replace h := gx_f c18 h
    refine lv_iconst (v := 0) hx hb dX10_look_8 (by decide) ?_
    refine lv_goto (tgt := 13) hx hb dX10_look_9 (by decide) ?_
    exact hj13_3 (0 : Int32) _ _ _ h hP hD hS (lv_sub hl [0, 1] rfl)

def rX10_canOpen : Room := { frames := 0, cells := 0, slots := 0, locals := 0 }
set_option maxHeartbeats 4000000 in
set_option maxRecDepth 100000 in
theorem k_X10_canOpen (l : Launch) (D : va_G) (cI cZ : ClassId) (ad : Nat → Nat) (u : MS) (p0 : Int32) (p1 : Int32) {r : Int32} (h : g_X10_canOpen u p0 p1 = some r) : MI l yX10_canOpen (wm yX10_canOpen cX10_canOpen 5 (some .boolean)) rX10_canOpen D [(cI, .int), (cZ, .boolean)] (wM cI cZ ad u) (wM cI cZ ad u) [.ref (ad 0), .int p0, .int p1] r := by
  intro sz
  refine Met.ofW (cc := cX10_canOpen) (maxL := 5) (ret := (some .boolean)) (by decide) rfl ?_
  intro p e s m args below meth c s₁ B hml hv
  obtain ⟨rfl, hsz, hP, hK, hD0, hZ⟩ := hv
  have hx := B.exec
  have hb := B.bytes
  have hr := B.returns
  have hts : ∀ w ∈ Wall, w.before _ s = true := fun w hw => atoms_spec (ws := wm yX10_canOpen cX10_canOpen 5 (some .boolean)) B.pre w (List.mem_cons_of_mem _ hw)
  have hown : s.vm.findClass RX10 = some m.cls := findClass_of_methodNamed B.named
  have hlocks := B.notSynchronized
  subst hsz
  have hD := hD0.self (sz := s.heap.size)
  generalize hAe : va_A (wM cI cZ ad u) s.heap.size = A at hD hZ ⊢
  have hA : ∀ q : Nat, s.heap.size ≤ q → A q := fun q h => by rw [← hAe]; exact Or.inr h
  have hS : va_S A s.heap s.heap [] := va_S.rf
  have hf95 := hts _ mw_872
  have hf26 := hts _ mw_882
  have hf29 := hts _ mw_883
  have hl := lv_entry ([.ref (ad 0), .int p0, .int p1]) (n := 5) (Nat.le_of_ble_eq_true rfl)
  rw [lg_entry_eq]
  generalize (lg_sl ([.ref (ad 0), .int p0, .int p1]) ++ List.replicate (5 - (lg_sl ([.ref (ad 0), .int p0, .int p1])).length) Slot.unset).toArray = ls at hl ⊢
  replace hl : lv_has ls 5 [(0, .ref (ad 0)), (1, .int p0), (2, .int p1)] := hl
  refine w_gen (fun Q hQ => ?_)
  refine lv_iconst (v := 1) hx hb dX10_canOpen_0 (by decide) ?_
  refine lv_istore_n (lv' := [(3, .int (1 : Int32)), (0, .ref (ad 0)), (1, .int p0), (2, .int p1)]) hx hb dX10_canOpen_1 rfl hl (by decide) rfl (fun ls hl => ?_)
  refine lv_iload_n hx hb dX10_canOpen_2 rfl (lv_at hl 2 rfl) ?_
  refine lv_istore (lv' := [(4, .int p0), (3, .int (1 : Int32)), (0, .ref (ad 0)), (1, .int p0), (2, .int p1)]) hx hb dX10_canOpen_3 hl (by decide) rfl (fun ls hl => ?_)
  have hL5 : ∀ (k : Int32 → Option (Int32)) (hk : ∀ (x3_5 : Int32) (H : Heap) (locs : List Loc) (ls : Array Slot), k x3_5 = some r → va_P D vwCl (wM cI cZ ad u) H → va_D A (wM cI cZ ad u) → va_S A s.heap H locs → lv_has ls 5 [(3, .int x3_5)] → W p l e rX10_canOpen s m ([.ref (ad 0), .int p0, .int p1] : List Value).toArray below meth c H locs 0 0 Q (F0 m 53 ls [])) (n : Nat) (x3_5 : Int32) (x4_5 : Int32) (H : Heap) (locs : List Loc) (ls : Array Slot), lp_X10_canOpen_5 u p1 k n x3_5 x4_5 = some r → va_P D vwCl (wM cI cZ ad u) H → va_D A (wM cI cZ ad u) → va_S A s.heap H locs → lv_has ls 5 [(0, .ref (ad 0)), (2, .int p1), (3, .int x3_5), (4, .int x4_5)] → W p l e rX10_canOpen s m ([.ref (ad 0), .int p0, .int p1] : List Value).toArray below meth c H locs 0 0 Q (F0 m 5 ls []) := by
    intro k hk n
    induction n with
    | zero =>
      intro x3_5 x4_5 H locs ls h
      rw [lp_X10_canOpen_5] at h
      cases h
    | succ n ih =>
      intro x3_5 x4_5 H locs ls h hP hD hS hl
      rw [lp_X10_canOpen_5] at h
      refine lv_iload hx hb dX10_canOpen_5 (lv_at hl 3 rfl) ?_
      refine lv_iload_n hx hb dX10_canOpen_7 rfl (lv_at hl 1 rfl) ?_
      refine lv_icmp_gt (tgt := 53) hx hb dX10_canOpen_8 (by decide) (fun c1 => ?_) (fun c1 => ?_)
      · replace h := gx_t c1 h
        exact hk x3_5 _ _ _ h hP hD hS (lv_sub hl [2] rfl)
      · replace h := gx_f c1 h
        refine lv_iload_n hx hb dX10_canOpen_11 rfl (lv_at hl 2 rfl) ?_
        obtain ⟨j46_2, ej46_2, h⟩ := gx_let h
        have hj46_2 : ∀ (z0_46 : Int32) (H : Heap) (locs : List Loc) (ls : Array Slot), j46_2 z0_46 = some r → va_P D vwCl (wM cI cZ ad u) H → va_D A (wM cI cZ ad u) → va_S A s.heap H locs → lv_has ls 5 [(0, .ref (ad 0)), (2, .int p1), (4, .int x4_5)] → W p l e rX10_canOpen s m ([.ref (ad 0), .int p0, .int p1] : List Value).toArray below meth c H locs 0 0 Q (F0 m 46 ls [.int z0_46]) := by
          intro z0_46 H locs ls h hP hD hS hl
          subst ej46_2
          refine lv_istore_n (lv' := [(3, .int z0_46), (0, .ref (ad 0)), (2, .int p1), (4, .int x4_5)]) hx hb dX10_canOpen_46 rfl hl (by decide) rfl (fun ls hl => ?_)
          obtain ⟨v3, ev3, h⟩ := gx_let h
          refine lv_iinc (v := v3) (lv' := [(4, .int v3), (3, .int z0_46), (0, .ref (ad 0)), (2, .int p1)]) hx hb dX10_canOpen_47 hl (k := 3) rfl (by rw [← ev3]; rfl) (by decide) rfl (fun ls hl => ?_)
          refine lv_goto (tgt := 5) hx hb dX10_canOpen_50 (by decide) ?_
          exact ih z0_46 v3 _ _ _ h hP hD hS (lv_sub hl [2, 3, 1, 0] rfl)
        obtain ⟨j45_4, ej45_4, h⟩ := gx_let h
        have hj45_4 : ∀ (H : Heap) (locs : List Loc) (ls : Array Slot), j45_4 () = some r → va_P D vwCl (wM cI cZ ad u) H → va_D A (wM cI cZ ad u) → va_S A s.heap H locs → lv_has ls 5 [(0, .ref (ad 0)), (2, .int p1), (4, .int x4_5)] → W p l e rX10_canOpen s m ([.ref (ad 0), .int p0, .int p1] : List Value).toArray below meth c H locs 0 0 Q (F0 m 45 ls []) := by
          intro  H locs ls h hP hD hS hl
          subst ej45_4
          refine lv_iconst (v := 0) hx hb dX10_canOpen_45 (by decide) ?_
          exact hj46_2 (0 : Int32) _ _ _ h hP hD hS (lv_sub hl [0, 1, 2] rfl)
        refine lv_if_eq (tgt := 45) hx hb dX10_canOpen_12 (by decide) (fun c5 => ?_) (fun c5 => ?_)
        · replace h := gx_t c5 h
          exact hj45_4 _ _ _ h hP hD hS (lv_sub hl [0, 1, 3] rfl)
        · replace h := gx_f c5 h
          refine lv_aload_n hx hb dX10_canOpen_15 rfl (lv_at hl 0 rfl) ?_
          refine va_get (D := D) (ci := 10) (v := .int (m_now u)) (C := RX10) (T := TX10) (N := 32) hx hb hts iX10 hown hK hP 0 rfl rfl 1 (by decide) hf95 (fun _ h9 => h9) rfl dX10_canOpen_16 ?_
          refine lv_aload_n hx hb dX10_canOpen_19 rfl (lv_at hl 0 rfl) ?_
          refine va_get (D := D) (ci := 10) (v := .ref (ad 6)) (C := RX10) (T := TX10) (N := 32) hx hb hts iX10 hown hK hP 0 rfl rfl 11 (by decide) hf26 (fun _ h9 => h9) rfl dX10_canOpen_20 ?_
          refine lv_iload hx hb dX10_canOpen_23 (lv_at hl 3 rfl) ?_
          obtain ⟨b6, h⟩ := gx_in h
          refine va_iald (D := D) hx hb hK hP 6 0 rfl rfl b6 dX10_canOpen_25 ?_
          refine lv_isub hx hb dX10_canOpen_26 ?_
          refine lv_iconst (v := 5) hx hb dX10_canOpen_27 (by decide) ?_
          refine lv_icmp_ge (tgt := 45) hx hb dX10_canOpen_28 (by decide) (fun c7 => ?_) (fun c7 => ?_)
          · replace h := gx_t c7 h
            exact hj45_4 _ _ _ h hP hD hS (lv_sub hl [0, 1, 3] rfl)
          · replace h := gx_f c7 h
            refine lv_aload_n hx hb dX10_canOpen_31 rfl (lv_at hl 0 rfl) ?_
            refine va_get (D := D) (ci := 10) (v := .ref (ad 7)) (C := RX10) (T := TX10) (N := 32) hx hb hts iX10 hown hK hP 0 rfl rfl 12 (by decide) hf29 (fun _ h9 => h9) rfl dX10_canOpen_32 ?_
            refine lv_iload hx hb dX10_canOpen_35 (lv_at hl 3 rfl) ?_
            obtain ⟨b8, h⟩ := gx_in h
            refine va_zald (D := D) hx hb hK hP 7 1 rfl rfl b8 dX10_canOpen_37 ?_
            refine lv_if_eq (tgt := 45) hx hb dX10_canOpen_38 (by decide) (fun c9 => ?_) (fun c9 => ?_)
            · replace h := gx_t c9 h
              exact hj45_4 _ _ _ h hP hD hS (lv_sub hl [0, 1, 3] rfl)
            · replace h := gx_f c9 h
              refine lv_iconst (v := 1) hx hb dX10_canOpen_41 (by decide) ?_
              refine lv_goto (tgt := 46) hx hb dX10_canOpen_42 (by decide) ?_
              exact hj46_2 (1 : Int32) _ _ _ h hP hD hS (lv_sub hl [0, 1, 3] rfl)
  refine hL5 _ (fun x3_5 H locs ls h hP hD hS hl => ?_) FU (1 : Int32) p0 _ _ _ h hP hD hS (lv_sub hl [2, 4, 1, 0] rfl)
  refine lv_iload_n hx hb dX10_canOpen_53 rfl (lv_at hl 0 rfl) ?_
  obtain ⟨bo, h⟩ := gx_bo h
  cases h
  exact cc_ret hx hb hr bo hQ hK hP hD hS rfl dX10_canOpen_54 hlocks

def rX10_openShoulder : Room := { frames := 2, cells := 0, slots := 0, locals := 42 }
set_option maxHeartbeats 4000000 in
set_option maxRecDepth 100000 in
theorem k_X10_openShoulder (l : Launch) (D : va_G) (cI cZ : ClassId) (ad : Nat → Nat) (u : MS) (p0 : Int32) (p1 : Int32) {r : Int32} {w' : MS} (h : g_X10_openShoulder u p0 p1 = some (r, w')) : MI l yX10_openShoulder (wm yX10_openShoulder cX10_openShoulder 6 (some .int)) rX10_openShoulder D [(cI, .int), (cZ, .boolean)] (wM cI cZ ad u) (wM cI cZ ad w') [.ref (ad 0), .int p0, .int p1] r := by
  intro sz
  refine Met.ofW (cc := cX10_openShoulder) (maxL := 6) (ret := (some .int)) (by decide) rfl ?_
  intro p e s m args below meth c s₁ B hml hv
  obtain ⟨rfl, hsz, hP, hK, hD0, hZ⟩ := hv
  have hx := B.exec
  have hb := B.bytes
  have hr := B.returns
  have hts : ∀ w ∈ Wall, w.before _ s = true := fun w hw => atoms_spec (ws := wm yX10_openShoulder cX10_openShoulder 6 (some .int)) B.pre w (List.mem_cons_of_mem _ hw)
  have hown : s.vm.findClass RX10 = some m.cls := findClass_of_methodNamed B.named
  have hlocks := B.notSynchronized
  subst hsz
  have hD := hD0.self (sz := s.heap.size)
  generalize hAe : va_A (wM cI cZ ad u) s.heap.size = A at hD hZ ⊢
  have hA : ∀ q : Nat, s.heap.size ≤ q → A q := fun q h => by rw [← hAe]; exact Or.inr h
  have hS : va_S A s.heap s.heap [] := va_S.rf
  have hf23 := hts _ mw_881
  have hl := lv_entry ([.ref (ad 0), .int p0, .int p1]) (n := 6) (Nat.le_of_ble_eq_true rfl)
  rw [lg_entry_eq]
  generalize (lg_sl ([.ref (ad 0), .int p0, .int p1]) ++ List.replicate (6 - (lg_sl ([.ref (ad 0), .int p0, .int p1])).length) Slot.unset).toArray = ls at hl ⊢
  replace hl : lv_has ls 6 [(0, .ref (ad 0)), (1, .int p0), (2, .int p1)] := hl
  refine w_gen (fun Q hQ => ?_)
  refine lv_iload_n hx hb dX10_openShoulder_0 rfl (lv_at hl 1 rfl) ?_
  obtain ⟨y1, hc2, h⟩ := gx_bind h
  refine cc_iS (As := [.int p0]) (rest := []) ⟨hx, hb, hml, hown, hts⟩ (k_X10_isSection l D cI cZ ad u p0 hc2) (va_cwS 1 hts (gwS mw_1039 mw_1040 mw_59 mw_1041) rfl rfl rfl (by decide +kernel) ⟨Nat.le_of_ble_eq_true rfl, Nat.le_of_ble_eq_true rfl⟩) hK hP hD hS hA hZ rfl hl.1 rfl (Nat.le_of_ble_eq_true rfl) dX10_openShoulder_1 ⟨Nat.zero_le _, Nat.zero_le _⟩ (fun H locs hP hD hS => ?_)
  obtain ⟨j19_3, ej19_3, h⟩ := gx_let h
  have hj19_3 : ∀ (z0_19 : Int32) (H : Heap) (locs : List Loc) (ls : Array Slot), j19_3 z0_19 = some (r, w') → va_P D vwCl (wM cI cZ ad u) H → va_D A (wM cI cZ ad u) → va_S A s.heap H locs → lv_has ls 6 [(0, .ref (ad 0)), (1, .int p0), (2, .int p1)] → W p l e rX10_openShoulder s m ([.ref (ad 0), .int p0, .int p1] : List Value).toArray below meth c H locs 0 0 Q (F0 m 19 ls [.int z0_19]) := by
    intro z0_19 H locs ls h hP hD hS hl
    subst ej19_3
    refine lv_istore_n (lv' := [(3, .int z0_19), (0, .ref (ad 0)), (1, .int p0), (2, .int p1)]) hx hb dX10_openShoulder_19 rfl hl (by decide) rfl (fun ls hl => ?_)
    refine lv_aload_n hx hb dX10_openShoulder_20 rfl (lv_at hl 1 rfl) ?_
    refine lv_iload_n hx hb dX10_openShoulder_21 rfl (lv_at hl 0 rfl) ?_
    obtain ⟨j52_4, ej52_4, h⟩ := gx_let h
    have hj52_4 : ∀ (z0_52 : Int32) (H : Heap) (locs : List Loc) (ls : Array Slot), j52_4 z0_52 = some (r, w') → va_P D vwCl (wM cI cZ ad u) H → va_D A (wM cI cZ ad u) → va_S A s.heap H locs → lv_has ls 6 [(0, .ref (ad 0)), (1, .int p0), (2, .int p1)] → W p l e rX10_openShoulder s m ([.ref (ad 0), .int p0, .int p1] : List Value).toArray below meth c H locs 0 0 Q (F0 m 52 ls [.int z0_52, .ref (ad 0)]) := by
      intro z0_52 H locs ls h hP hD hS hl
      subst ej52_4
      obtain ⟨y5, hc6, h⟩ := gx_bind h
      refine cc_iV (As := [.int z0_52]) (rest := []) ⟨hx, hb, hml, hown, hts⟩ (k_X10_holds l D cI cZ ad u z0_52 hc6) (cwV 1 hts (gwV mw_976 mw_978 mw_24 mw_59 mw_979) rfl rfl rfl (by decide +kernel) ⟨Nat.le_of_ble_eq_true rfl, Nat.le_of_ble_eq_true rfl⟩) hK hP hD hS hA hZ (ci := 10) (q0 := 0) rfl rfl rfl hl.1 rfl (Nat.le_of_ble_eq_true rfl) dX10_openShoulder_52 ⟨Nat.zero_le _, Nat.zero_le _⟩ (fun H locs hP hD hS => ?_)
      refine lv_if_ne (tgt := 60) hx hb dX10_openShoulder_55 (by decide) (fun c7 => ?_) (fun c7 => ?_)
      · replace h := gx_f c7 h
        refine lv_iconst (v := 0) hx hb dX10_openShoulder_60 (by decide) ?_
        refine lv_istore (lv' := [(4, .int (0 : Int32)), (0, .ref (ad 0)), (1, .int p0), (2, .int p1)]) hx hb dX10_openShoulder_61 hl (by decide) rfl (fun ls hl => ?_)
        refine lv_iload_n hx hb dX10_openShoulder_63 rfl (lv_at hl 2 rfl) ?_
        refine lv_istore (lv' := [(5, .int p0), (4, .int (0 : Int32)), (0, .ref (ad 0)), (1, .int p0), (2, .int p1)]) hx hb dX10_openShoulder_64 hl (by decide) rfl (fun ls hl => ?_)
        have hL66 : ∀ (k : Int32 → MS → Option (Int32 × MS)) (hk : ∀ (x4_66 : Int32) (w66 : MS) (H : Heap) (locs : List Loc) (ls : Array Slot), k x4_66 w66 = some (r, w') → va_P D vwCl (wM cI cZ ad w66) H → va_D A (wM cI cZ ad w66) → va_S A s.heap H locs → lv_has ls 6 [(4, .int x4_66)] → W p l e rX10_openShoulder s m ([.ref (ad 0), .int p0, .int p1] : List Value).toArray below meth c H locs 0 0 Q (F0 m 106 ls [])) (n : Nat) (x4_66 : Int32) (x5_66 : Int32) (w66 : MS) (H : Heap) (locs : List Loc) (ls : Array Slot), lp_X10_openShoulder_66 p1 k n x4_66 x5_66 w66 = some (r, w') → va_P D vwCl (wM cI cZ ad w66) H → va_D A (wM cI cZ ad w66) → va_S A s.heap H locs → lv_has ls 6 [(0, .ref (ad 0)), (2, .int p1), (4, .int x4_66), (5, .int x5_66)] → W p l e rX10_openShoulder s m ([.ref (ad 0), .int p0, .int p1] : List Value).toArray below meth c H locs 0 0 Q (F0 m 66 ls []) := by
          intro k hk n
          induction n with
          | zero =>
            intro x4_66 x5_66 w66 H locs ls h
            rw [lp_X10_openShoulder_66] at h
            cases h
          | succ n ih =>
            intro x4_66 x5_66 w66 H locs ls h hP hD hS hl
            rw [lp_X10_openShoulder_66] at h
            refine lv_iload hx hb dX10_openShoulder_66 (lv_at hl 3 rfl) ?_
            refine lv_iload_n hx hb dX10_openShoulder_68 rfl (lv_at hl 1 rfl) ?_
            refine lv_icmp_gt (tgt := 106) hx hb dX10_openShoulder_69 (by decide) (fun c8 => ?_) (fun c8 => ?_)
            · replace h := gx_t c8 h
              exact hk x4_66 w66 _ _ _ h hP hD hS (lv_sub hl [2] rfl)
            · replace h := gx_f c8 h
              refine lv_iload hx hb dX10_openShoulder_72 (lv_at hl 2 rfl) ?_
              refine lv_aload_n hx hb dX10_openShoulder_74 rfl (lv_at hl 0 rfl) ?_
              refine va_get (D := D) (ci := 10) (v := .ref (ad 5)) (C := RX10) (T := TX10) (N := 32) hx hb hts iX10 hown hK hP 0 rfl rfl 10 (by decide) hf23 (fun _ h9 => h9) rfl dX10_openShoulder_75 ?_
              refine lv_iload hx hb dX10_openShoulder_78 (lv_at hl 3 rfl) ?_
              obtain ⟨b9, h⟩ := gx_in h
              refine va_zald (D := D) hx hb hK hP 5 1 rfl rfl b9 dX10_openShoulder_80 ?_
              obtain ⟨j89_10, ej89_10, h⟩ := gx_let h
              have hj89_10 : ∀ (z0_89 : Int32) (H : Heap) (locs : List Loc) (ls : Array Slot), j89_10 z0_89 = some (r, w') → va_P D vwCl (wM cI cZ ad w66) H → va_D A (wM cI cZ ad w66) → va_S A s.heap H locs → lv_has ls 6 [(0, .ref (ad 0)), (2, .int p1), (5, .int x5_66)] → W p l e rX10_openShoulder s m ([.ref (ad 0), .int p0, .int p1] : List Value).toArray below meth c H locs 0 0 Q (F0 m 89 ls [.int z0_89, .int x4_66]) := by
                intro z0_89 H locs ls h hP hD hS hl
                subst ej89_10
                refine lv_iadd hx hb dX10_openShoulder_89 ?_
                obtain ⟨v11, ev11, h⟩ := gx_let h
                refine lv_topn ev11 ?_
                refine lv_istore (lv' := [(4, .int v11), (0, .ref (ad 0)), (2, .int p1), (5, .int x5_66)]) hx hb dX10_openShoulder_90 hl (by decide) rfl (fun ls hl => ?_)
                refine lv_aload_n hx hb dX10_openShoulder_92 rfl (lv_at hl 1 rfl) ?_
                refine va_get (D := D) (ci := 10) (v := .ref (ad 5)) (C := RX10) (T := TX10) (N := 32) hx hb hts iX10 hown hK hP 0 rfl rfl 10 (by decide) hf23 (fun _ h9 => h9) rfl dX10_openShoulder_93 ?_
                refine lv_iload hx hb dX10_openShoulder_96 (lv_at hl 3 rfl) ?_
                refine lv_iconst (v := 1) hx hb dX10_openShoulder_98 (by decide) ?_
                obtain ⟨b12, h⟩ := gx_in h
                refine va_zast (D := D) hx hb hK hP hD hS 5 1 rfl rfl b12 dX10_openShoulder_99 (fun H locs hP hD hS => ?_)
                obtain ⟨u13, eu13, h⟩ := gx_let h
                replace hP : va_P D vwCl (wM cI cZ ad u13) H := by rw [← eu13]; exact hP
                replace hD : va_D A (wM cI cZ ad u13) := by rw [← eu13]; exact hD
                obtain ⟨v14, ev14, h⟩ := gx_let h
                refine lv_iinc (v := v14) (lv' := [(5, .int v14), (4, .int v11), (0, .ref (ad 0)), (2, .int p1)]) hx hb dX10_openShoulder_100 hl (k := 3) rfl (by rw [← ev14]; rfl) (by decide) rfl (fun ls hl => ?_)
                refine lv_goto (tgt := 66) hx hb dX10_openShoulder_103 (by decide) ?_
                exact ih v11 v14 u13 _ _ _ h hP hD hS (lv_sub hl [2, 3, 1, 0] rfl)
              refine lv_if_eq (tgt := 88) hx hb dX10_openShoulder_81 (by decide) (fun c15 => ?_) (fun c15 => ?_)
              · replace h := gx_t c15 h
                refine lv_iconst (v := 1) hx hb dX10_openShoulder_88 (by decide) ?_
                exact hj89_10 (1 : Int32) _ _ _ h hP hD hS (lv_sub hl [0, 1, 3] rfl)
              · replace h := gx_f c15 h
                refine lv_iconst (v := 0) hx hb dX10_openShoulder_84 (by decide) ?_
                refine lv_goto (tgt := 89) hx hb dX10_openShoulder_85 (by decide) ?_
                exact hj89_10 (0 : Int32) _ _ _ h hP hD hS (lv_sub hl [0, 1, 3] rfl)
        refine hL66 _ (fun x4_66 w66 H locs ls h hP hD hS hl => ?_) FU (0 : Int32) p0 y5.2 _ _ _ h hP hD hS (lv_sub hl [2, 4, 1, 0] rfl)
        refine lv_iload hx hb dX10_openShoulder_106 (lv_at hl 0 rfl) ?_
        cases h
        exact cc_ret hx hb hr rfl hQ hK hP hD hS rfl dX10_openShoulder_108 hlocks
      · replace h := gx_t c7 h
        refine lv_iconst (v := 0) hx hb dX10_openShoulder_58 (by decide) ?_
        cases h
        exact cc_ret hx hb hr rfl hQ hK hP hD hS rfl dX10_openShoulder_59 hlocks
    refine lv_if_ne (tgt := 29) hx hb dX10_openShoulder_22 (by decide) (fun c16 => ?_) (fun c16 => ?_)
    · replace h := gx_f c16 h
      refine lv_iload_n hx hb dX10_openShoulder_29 rfl (lv_at hl 3 rfl) ?_
      refine lv_iload_n hx hb dX10_openShoulder_30 rfl (lv_at hl 2 rfl) ?_
      refine lv_icmp_ge (tgt := 38) hx hb dX10_openShoulder_31 (by decide) (fun c17 => ?_) (fun c17 => ?_)
      · replace h := gx_t c17 h
        refine lv_aload_n hx hb dX10_openShoulder_38 rfl (lv_at hl 1 rfl) ?_
        refine lv_iload_n hx hb dX10_openShoulder_39 rfl (lv_at hl 2 rfl) ?_
        refine lv_iload_n hx hb dX10_openShoulder_40 rfl (lv_at hl 3 rfl) ?_
        obtain ⟨y18, hc19, h⟩ := gx_bind h
        refine cc_iV (As := [.int p0, .int p1]) (rest := [.ref (ad 0)]) ⟨hx, hb, hml, hown, hts⟩ (k_X10_canOpen l D cI cZ ad u p0 p1 hc19) (cwV 2 hts (gwV mw_1082 mw_1084 mw_37 mw_59 mw_1085) rfl rfl rfl (by decide +kernel) ⟨Nat.le_of_ble_eq_true rfl, Nat.le_of_ble_eq_true rfl⟩) hK hP hD hS hA hZ (ci := 10) (q0 := 0) rfl rfl rfl hl.1 rfl (Nat.le_of_ble_eq_true rfl) dX10_openShoulder_41 ⟨Nat.zero_le _, Nat.zero_le _⟩ (fun H locs hP hD hS => ?_)
        refine lv_if_eq (tgt := 51) hx hb dX10_openShoulder_44 (by decide) (fun c20 => ?_) (fun c20 => ?_)
        · replace h := gx_t c20 h
          refine lv_iconst (v := 3) hx hb dX10_openShoulder_51 (by decide) ?_
          exact hj52_4 (3 : Int32) _ _ _ h hP hD hS (lv_sub hl [1, 2, 3] rfl)
        · replace h := gx_f c20 h
          refine lv_iconst (v := 0) hx hb dX10_openShoulder_47 (by decide) ?_
          refine lv_goto (tgt := 52) hx hb dX10_openShoulder_48 (by decide) ?_
          exact hj52_4 (0 : Int32) _ _ _ h hP hD hS (lv_sub hl [1, 2, 3] rfl)
      · replace h := gx_f c17 h
        refine lv_iconst (v := 2) hx hb dX10_openShoulder_34 (by decide) ?_
        refine lv_goto (tgt := 52) hx hb dX10_openShoulder_35 (by decide) ?_
        exact hj52_4 (2 : Int32) _ _ _ h hP hD hS (lv_sub hl [1, 2, 3] rfl)
    · replace h := gx_t c16 h
      refine lv_iconst (v := 1) hx hb dX10_openShoulder_25 (by decide) ?_
      refine lv_goto (tgt := 52) hx hb dX10_openShoulder_26 (by decide) ?_
      exact hj52_4 (1 : Int32) _ _ _ h hP hD hS (lv_sub hl [1, 2, 3] rfl)
  obtain ⟨j18_21, ej18_21, h⟩ := gx_let h
  have hj18_21 : ∀ (H : Heap) (locs : List Loc) (ls : Array Slot), j18_21 () = some (r, w') → va_P D vwCl (wM cI cZ ad u) H → va_D A (wM cI cZ ad u) → va_S A s.heap H locs → lv_has ls 6 [(0, .ref (ad 0)), (1, .int p0), (2, .int p1)] → W p l e rX10_openShoulder s m ([.ref (ad 0), .int p0, .int p1] : List Value).toArray below meth c H locs 0 0 Q (F0 m 18 ls []) := by
    intro  H locs ls h hP hD hS hl
    subst ej18_21
    refine lv_iconst (v := 0) hx hb dX10_openShoulder_18 (by decide) ?_
    exact hj19_3 (0 : Int32) _ _ _ h hP hD hS (lv_sub hl [0, 1, 2] rfl)
  refine lv_if_eq (tgt := 18) hx hb dX10_openShoulder_4 (by decide) (fun c22 => ?_) (fun c22 => ?_)
  · replace h := gx_t c22 h
    exact hj18_21 _ _ _ h hP hD hS (lv_sub hl [0, 1, 2] rfl)
  · replace h := gx_f c22 h
    refine lv_iload_n hx hb dX10_openShoulder_7 rfl (lv_at hl 2 rfl) ?_
    obtain ⟨y23, hc24, h⟩ := gx_bind h
    refine cc_iS (As := [.int p1]) (rest := []) ⟨hx, hb, hml, hown, hts⟩ (k_X10_isSection l D cI cZ ad u p1 hc24) (va_cwS 1 hts (gwS mw_1039 mw_1040 mw_59 mw_1041) rfl rfl rfl (by decide +kernel) ⟨Nat.le_of_ble_eq_true rfl, Nat.le_of_ble_eq_true rfl⟩) hK hP hD hS hA hZ rfl hl.1 rfl (Nat.le_of_ble_eq_true rfl) dX10_openShoulder_8 ⟨Nat.zero_le _, Nat.zero_le _⟩ (fun H locs hP hD hS => ?_)
    refine lv_if_eq (tgt := 18) hx hb dX10_openShoulder_11 (by decide) (fun c25 => ?_) (fun c25 => ?_)
    · replace h := gx_t c25 h
      exact hj18_21 _ _ _ h hP hD hS (lv_sub hl [0, 1, 2] rfl)
    · replace h := gx_f c25 h
      refine lv_iconst (v := 1) hx hb dX10_openShoulder_14 (by decide) ?_
      refine lv_goto (tgt := 19) hx hb dX10_openShoulder_15 (by decide) ?_
      exact hj19_3 (1 : Int32) _ _ _ h hP hD hS (lv_sub hl [0, 1, 2] rfl)

def rX10_shuts : Room := { frames := 0, cells := 0, slots := 0, locals := 0 }
set_option maxHeartbeats 4000000 in
set_option maxRecDepth 100000 in
theorem k_X10_shuts (l : Launch) (D : va_G) (cI cZ : ClassId) (ad : Nat → Nat) (u : MS) {r : Int32} {w' : MS} (h : g_X10_shuts u = some (r, w')) : MI l yX10_shuts (wm yX10_shuts cX10_shuts 3 (some .int)) rX10_shuts D [(cI, .int), (cZ, .boolean)] (wM cI cZ ad u) (wM cI cZ ad w') [.ref (ad 0)] r := by
  intro sz
  refine Met.ofW (cc := cX10_shuts) (maxL := 3) (ret := (some .int)) (by decide) rfl ?_
  intro p e s m args below meth c s₁ B hml hv
  obtain ⟨rfl, hsz, hP, hK, hD0, hZ⟩ := hv
  have hx := B.exec
  have hb := B.bytes
  have hr := B.returns
  have hts : ∀ w ∈ Wall, w.before _ s = true := fun w hw => atoms_spec (ws := wm yX10_shuts cX10_shuts 3 (some .int)) B.pre w (List.mem_cons_of_mem _ hw)
  have hown : s.vm.findClass RX10 = some m.cls := findClass_of_methodNamed B.named
  have hlocks := B.notSynchronized
  subst hsz
  have hD := hD0.self (sz := s.heap.size)
  generalize hAe : va_A (wM cI cZ ad u) s.heap.size = A at hD hZ ⊢
  have hA : ∀ q : Nat, s.heap.size ≤ q → A q := fun q h => by rw [← hAe]; exact Or.inr h
  have hS : va_S A s.heap s.heap [] := va_S.rf
  have hf23 := hts _ mw_881
  have hl := lv_entry ([.ref (ad 0)]) (n := 3) (Nat.le_of_ble_eq_true rfl)
  rw [lg_entry_eq]
  generalize (lg_sl ([.ref (ad 0)]) ++ List.replicate (3 - (lg_sl ([.ref (ad 0)])).length) Slot.unset).toArray = ls at hl ⊢
  replace hl : lv_has ls 3 [(0, .ref (ad 0))] := hl
  refine w_gen (fun Q hQ => ?_)
  refine lv_iconst (v := 0) hx hb dX10_shuts_0 (by decide) ?_
  refine lv_istore_n (lv' := [(1, .int (0 : Int32)), (0, .ref (ad 0))]) hx hb dX10_shuts_1 rfl hl (by decide) rfl (fun ls hl => ?_)
  refine lv_iconst (v := 0) hx hb dX10_shuts_2 (by decide) ?_
  refine lv_istore_n (lv' := [(2, .int (0 : Int32)), (1, .int (0 : Int32)), (0, .ref (ad 0))]) hx hb dX10_shuts_3 rfl hl (by decide) rfl (fun ls hl => ?_)
  have hL4 : ∀ (k : Int32 → MS → Option (Int32 × MS)) (hk : ∀ (x1_4 : Int32) (w4 : MS) (H : Heap) (locs : List Loc) (ls : Array Slot), k x1_4 w4 = some (r, w') → va_P D vwCl (wM cI cZ ad w4) H → va_D A (wM cI cZ ad w4) → va_S A s.heap H locs → lv_has ls 3 [(1, .int x1_4)] → W p l e rX10_shuts s m ([.ref (ad 0)] : List Value).toArray below meth c H locs 0 0 Q (F0 m 40 ls [])) (n : Nat) (x1_4 : Int32) (x2_4 : Int32) (w4 : MS) (H : Heap) (locs : List Loc) (ls : Array Slot), lp_X10_shuts_4 k n x1_4 x2_4 w4 = some (r, w') → va_P D vwCl (wM cI cZ ad w4) H → va_D A (wM cI cZ ad w4) → va_S A s.heap H locs → lv_has ls 3 [(0, .ref (ad 0)), (1, .int x1_4), (2, .int x2_4)] → W p l e rX10_shuts s m ([.ref (ad 0)] : List Value).toArray below meth c H locs 0 0 Q (F0 m 4 ls []) := by
    intro k hk n
    induction n with
    | zero =>
      intro x1_4 x2_4 w4 H locs ls h
      rw [lp_X10_shuts_4] at h
      cases h
    | succ n ih =>
      intro x1_4 x2_4 w4 H locs ls h hP hD hS hl
      rw [lp_X10_shuts_4] at h
      refine lv_iload_n hx hb dX10_shuts_4 rfl (lv_at hl 2 rfl) ?_
      refine lv_bipush (v := 12) hx hb dX10_shuts_5 (by decide) ?_
      refine lv_icmp_ge (tgt := 40) hx hb dX10_shuts_7 (by decide) (fun c1 => ?_) (fun c1 => ?_)
      · replace h := gx_t c1 h
        exact hk x1_4 w4 _ _ _ h hP hD hS (lv_sub hl [1] rfl)
      · replace h := gx_f c1 h
        refine lv_iload_n hx hb dX10_shuts_10 rfl (lv_at hl 1 rfl) ?_
        refine lv_aload_n hx hb dX10_shuts_11 rfl (lv_at hl 0 rfl) ?_
        refine va_get (D := D) (ci := 10) (v := .ref (ad 5)) (C := RX10) (T := TX10) (N := 32) hx hb hts iX10 hown hK hP 0 rfl rfl 10 (by decide) hf23 (fun _ h9 => h9) rfl dX10_shuts_12 ?_
        refine lv_iload_n hx hb dX10_shuts_15 rfl (lv_at hl 2 rfl) ?_
        obtain ⟨b2, h⟩ := gx_in h
        refine va_zald (D := D) hx hb hK hP 5 1 rfl rfl b2 dX10_shuts_16 ?_
        obtain ⟨j25_3, ej25_3, h⟩ := gx_let h
        have hj25_3 : ∀ (z0_25 : Int32) (H : Heap) (locs : List Loc) (ls : Array Slot), j25_3 z0_25 = some (r, w') → va_P D vwCl (wM cI cZ ad w4) H → va_D A (wM cI cZ ad w4) → va_S A s.heap H locs → lv_has ls 3 [(0, .ref (ad 0)), (2, .int x2_4)] → W p l e rX10_shuts s m ([.ref (ad 0)] : List Value).toArray below meth c H locs 0 0 Q (F0 m 25 ls [.int z0_25, .int x1_4]) := by
          intro z0_25 H locs ls h hP hD hS hl
          subst ej25_3
          refine lv_iadd hx hb dX10_shuts_25 ?_
          obtain ⟨v4, ev4, h⟩ := gx_let h
          refine lv_topn ev4 ?_
          refine lv_istore_n (lv' := [(1, .int v4), (0, .ref (ad 0)), (2, .int x2_4)]) hx hb dX10_shuts_26 rfl hl (by decide) rfl (fun ls hl => ?_)
          refine lv_aload_n hx hb dX10_shuts_27 rfl (lv_at hl 1 rfl) ?_
          refine va_get (D := D) (ci := 10) (v := .ref (ad 5)) (C := RX10) (T := TX10) (N := 32) hx hb hts iX10 hown hK hP 0 rfl rfl 10 (by decide) hf23 (fun _ h9 => h9) rfl dX10_shuts_28 ?_
          refine lv_iload_n hx hb dX10_shuts_31 rfl (lv_at hl 2 rfl) ?_
          refine lv_iconst (v := 0) hx hb dX10_shuts_32 (by decide) ?_
          obtain ⟨b5, h⟩ := gx_in h
          refine va_zast (D := D) hx hb hK hP hD hS 5 1 rfl rfl b5 dX10_shuts_33 (fun H locs hP hD hS => ?_)
          obtain ⟨u6, eu6, h⟩ := gx_let h
          replace hP : va_P D vwCl (wM cI cZ ad u6) H := by rw [← eu6]; exact hP
          replace hD : va_D A (wM cI cZ ad u6) := by rw [← eu6]; exact hD
          obtain ⟨v7, ev7, h⟩ := gx_let h
          refine lv_iinc (v := v7) (lv' := [(2, .int v7), (1, .int v4), (0, .ref (ad 0))]) hx hb dX10_shuts_34 hl (k := 2) rfl (by rw [← ev7]; rfl) (by decide) rfl (fun ls hl => ?_)
          refine lv_goto (tgt := 4) hx hb dX10_shuts_37 (by decide) ?_
          exact ih v4 v7 u6 _ _ _ h hP hD hS (lv_sub hl [2, 1, 0] rfl)
        refine lv_if_eq (tgt := 24) hx hb dX10_shuts_17 (by decide) (fun c8 => ?_) (fun c8 => ?_)
        · replace h := gx_t c8 h
          refine lv_iconst (v := 0) hx hb dX10_shuts_24 (by decide) ?_
          exact hj25_3 (0 : Int32) _ _ _ h hP hD hS (lv_sub hl [0, 2] rfl)
        · replace h := gx_f c8 h
          refine lv_iconst (v := 1) hx hb dX10_shuts_20 (by decide) ?_
          refine lv_goto (tgt := 25) hx hb dX10_shuts_21 (by decide) ?_
          exact hj25_3 (1 : Int32) _ _ _ h hP hD hS (lv_sub hl [0, 2] rfl)
  refine hL4 _ (fun x1_4 w4 H locs ls h hP hD hS hl => ?_) FU (0 : Int32) (0 : Int32) u _ _ _ h hP hD hS (lv_sub hl [2, 1, 0] rfl)
  refine lv_iload_n hx hb dX10_shuts_40 rfl (lv_at hl 0 rfl) ?_
  cases h
  exact cc_ret hx hb hr rfl hQ hK hP hD hS rfl dX10_shuts_41 hlocks
