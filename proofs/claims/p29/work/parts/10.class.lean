def rX9_placeOf : Room := { frames := 0, cells := 0, slots := 0, locals := 0 }
set_option maxHeartbeats 4000000 in
set_option maxRecDepth 100000 in
theorem k_X9_placeOf (l : Launch) (D : va_G) (cI cZ : ClassId) (ad : Nat → Nat) (u : GS) (p0 : Int32) (p1 : Int32) {r : Int32} (h : g_X9_placeOf p0 p1 = some r) : MI l yX9_placeOf (wm yX9_placeOf cX9_placeOf 2 (some .int)) rX9_placeOf D [(cI, .int), (cZ, .boolean)] (wC cI cZ ad u) (wC cI cZ ad u) [.int p0, .int p1] r := by
  intro sz
  refine Met.ofW (cc := cX9_placeOf) (maxL := 2) (ret := (some .int)) (by decide) rfl ?_
  intro p e s m args below meth c s₁ B hml hv
  obtain ⟨rfl, hsz, hP, hK, hD0, hZ⟩ := hv
  have hx := B.exec
  have hb := B.bytes
  have hr := B.returns
  have hts : ∀ w ∈ Wall, w.before _ s = true := fun w hw => atoms_spec (ws := wm yX9_placeOf cX9_placeOf 2 (some .int)) B.pre w (List.mem_cons_of_mem _ hw)
  have hown : s.vm.findClass RX9 = some m.cls := findClass_of_methodNamed B.named
  have hlocks := B.notSynchronized
  subst hsz
  have hD := hD0.self (sz := s.heap.size)
  generalize hAe : va_A (wC cI cZ ad u) s.heap.size = A at hD hZ ⊢
  have hA : ∀ q : Nat, s.heap.size ≤ q → A q := fun q h => by rw [← hAe]; exact Or.inr h
  have hS : va_S A s.heap s.heap [] := va_S.rf
  have hl := lv_entry ([.int p0, .int p1]) (n := 2) (Nat.le_of_ble_eq_true rfl)
  rw [lg_entry_eq]
  generalize (lg_sl ([.int p0, .int p1]) ++ List.replicate (2 - (lg_sl ([.int p0, .int p1])).length) Slot.unset).toArray = ls at hl ⊢
  replace hl : lv_has ls 2 [(0, .int p0), (1, .int p1)] := hl
  refine w_gen (fun Q hQ => ?_)
  refine lv_iload_n hx hb dX9_placeOf_0 rfl (lv_at hl 0 rfl) ?_
  refine lv_iconst (v := 4) hx hb dX9_placeOf_1 (by decide) ?_
  refine lv_imul hx hb dX9_placeOf_2 ?_
  refine lv_iload_n hx hb dX9_placeOf_3 rfl (lv_at hl 1 rfl) ?_
  refine lv_iadd hx hb dX9_placeOf_4 ?_
  cases h
  exact cc_ret hx hb hr rfl hQ hK hP hD hS rfl dX9_placeOf_5 hlocks

def rX6_tellCrosses : Room := { frames := 1, cells := 0, slots := 0, locals := 21 }
set_option maxHeartbeats 4000000 in
set_option maxRecDepth 100000 in
theorem k_X6_tellCrosses (l : Launch) (D : va_G) (cI cZ : ClassId) (ad : Nat → Nat) (u : GS) {w' : GS} (h : g_X6_tellCrosses u = some w') : MV l yX6_tellCrosses (wm yX6_tellCrosses cX6_tellCrosses 3 none) rX6_tellCrosses D [(cI, .int), (cZ, .boolean)] (wC cI cZ ad u) (wC cI cZ ad w') [.ref (ad 5), .ref (ad 19)] := by
  intro sz
  refine Met.ofW (cc := cX6_tellCrosses) (maxL := 3) (ret := none) (by decide) rfl ?_
  intro p e s m args below meth c s₁ B hml hv
  obtain ⟨rfl, hsz, hP, hK, hD0, hZ⟩ := hv
  have hx := B.exec
  have hb := B.bytes
  have hr := B.returns
  have hts : ∀ w ∈ Wall, w.before _ s = true := fun w hw => atoms_spec (ws := wm yX6_tellCrosses cX6_tellCrosses 3 none) B.pre w (List.mem_cons_of_mem _ hw)
  have hown : s.vm.findClass RX6 = some m.cls := findClass_of_methodNamed B.named
  have hlocks := B.notSynchronized
  subst hsz
  have hD := hD0.self (sz := s.heap.size)
  generalize hAe : va_A (wC cI cZ ad u) s.heap.size = A at hD hZ ⊢
  have hA : ∀ q : Nat, s.heap.size ≤ q → A q := fun q h => by rw [← hAe]; exact Or.inr h
  have hS : va_S A s.heap s.heap [] := va_S.rf
  have hf9 := hts _ mw_142
  have hl := lv_entry ([.ref (ad 5), .ref (ad 19)]) (n := 3) (Nat.le_of_ble_eq_true rfl)
  rw [lg_entry_eq]
  generalize (lg_sl ([.ref (ad 5), .ref (ad 19)]) ++ List.replicate (3 - (lg_sl ([.ref (ad 5), .ref (ad 19)])).length) Slot.unset).toArray = ls at hl ⊢
  replace hl : lv_has ls 3 [(0, .ref (ad 5)), (1, .ref (ad 19))] := hl
  refine w_gen (fun Q hQ => ?_)
  refine lv_iconst (v := 0) hx hb dX6_tellCrosses_0 (by decide) ?_
  refine lv_istore_n (lv' := [(2, .int (0 : Int32)), (0, .ref (ad 5)), (1, .ref (ad 19))]) hx hb dX6_tellCrosses_1 rfl hl (by decide) rfl (fun ls hl => ?_)
  have hL2 : ∀ (k : GS → Option (GS)) (hk : ∀ (w2 : GS) (H : Heap) (locs : List Loc) (ls : Array Slot), k w2 = some w' → va_P D vwCl (wC cI cZ ad w2) H → va_D A (wC cI cZ ad w2) → va_S A s.heap H locs → lv_has ls 3 [] → W p l e rX6_tellCrosses s m ([.ref (ad 5), .ref (ad 19)] : List Value).toArray below meth c H locs 0 0 Q (F0 m 31 ls [])) (n : Nat) (x2_2 : Int32) (w2 : GS) (H : Heap) (locs : List Loc) (ls : Array Slot), lp_X6_tellCrosses_2 k n x2_2 w2 = some w' → va_P D vwCl (wC cI cZ ad w2) H → va_D A (wC cI cZ ad w2) → va_S A s.heap H locs → lv_has ls 3 [(0, .ref (ad 5)), (1, .ref (ad 19)), (2, .int x2_2)] → W p l e rX6_tellCrosses s m ([.ref (ad 5), .ref (ad 19)] : List Value).toArray below meth c H locs 0 0 Q (F0 m 2 ls []) := by
    intro k hk n
    induction n with
    | zero =>
      intro x2_2 w2 H locs ls h
      rw [lp_X6_tellCrosses_2] at h
      cases h
    | succ n ih =>
      intro x2_2 w2 H locs ls h hP hD hS hl
      rw [lp_X6_tellCrosses_2] at h
      refine lv_iload_n hx hb dX6_tellCrosses_2 rfl (lv_at hl 2 rfl) ?_
      refine lv_bipush (v := 12) hx hb dX6_tellCrosses_3 (by decide) ?_
      refine lv_icmp_ge (tgt := 31) hx hb dX6_tellCrosses_5 (by decide) (fun c1 => ?_) (fun c1 => ?_)
      · replace h := gx_t c1 h
        exact hk w2 _ _ _ h hP hD hS (lv_sub hl [] rfl)
      · replace h := gx_f c1 h
        refine lv_aload_n hx hb dX6_tellCrosses_8 rfl (lv_at hl 0 rfl) ?_
        refine va_get (D := D) (ci := 6) (v := .ref (ad 21)) (C := RX6) (T := TX6) (N := 2) hx hb hts iX6 hown hK hP 5 rfl rfl 0 (by decide) hf9 (fun _ h9 => h9) rfl dX6_tellCrosses_9 ?_
        refine lv_iload_n hx hb dX6_tellCrosses_12 rfl (lv_at hl 2 rfl) ?_
        obtain ⟨b2, h⟩ := gx_in h
        refine va_zald (D := D) hx hb hK hP 21 1 rfl rfl b2 dX6_tellCrosses_13 ?_
        obtain ⟨j25_3, ej25_3, h⟩ := gx_let h
        have hj25_3 : ∀ (w25 : GS) (H : Heap) (locs : List Loc) (ls : Array Slot), j25_3 w25 = some w' → va_P D vwCl (wC cI cZ ad w25) H → va_D A (wC cI cZ ad w25) → va_S A s.heap H locs → lv_has ls 3 [(0, .ref (ad 5)), (1, .ref (ad 19)), (2, .int x2_2)] → W p l e rX6_tellCrosses s m ([.ref (ad 5), .ref (ad 19)] : List Value).toArray below meth c H locs 0 0 Q (F0 m 25 ls []) := by
          intro w25 H locs ls h hP hD hS hl
          subst ej25_3
          obtain ⟨v4, ev4, h⟩ := gx_let h
          refine lv_iinc (v := v4) (lv' := [(2, .int v4), (0, .ref (ad 5)), (1, .ref (ad 19))]) hx hb dX6_tellCrosses_25 hl (k := 2) rfl (by rw [← ev4]; rfl) (by decide) rfl (fun ls hl => ?_)
          refine lv_goto (tgt := 2) hx hb dX6_tellCrosses_28 (by decide) ?_
          exact ih v4 w25 _ _ _ h hP hD hS (lv_sub hl [1, 2, 0] rfl)
        refine lv_if_ne (tgt := 25) hx hb dX6_tellCrosses_14 (by decide) (fun c5 => ?_) (fun c5 => ?_)
        · replace h := gx_f c5 h
          exact hj25_3 w2 _ _ _ h hP hD hS (lv_sub hl [0, 1, 2] rfl)
        · replace h := gx_t c5 h
          refine lv_aload_n hx hb dX6_tellCrosses_17 rfl (lv_at hl 1 rfl) ?_
          refine lv_iload_n hx hb dX6_tellCrosses_18 rfl (lv_at hl 2 rfl) ?_
          refine lv_iconst (v := 0) hx hb dX6_tellCrosses_19 (by decide) ?_
          obtain ⟨y6, hc7, h⟩ := gx_bind h
          refine cc_iSN (As := [.int x2_2, .int (0 : Int32)]) (rest := [.ref (ad 19)]) ⟨hx, hb, hml, hown, hts⟩ (k_X9_placeOf l D cI cZ ad w2 x2_2 (0 : Int32) hc7) ⟨va_cnB 2 hts (gwM mw_237) rfl rfl rfl (hZ.1 ("RedcrossGantry$Shoulder", 23, yX9_placeOf) (by decide +kernel)) (hts _ mw_19) (by decide +kernel) ⟨Nat.le_of_ble_eq_true rfl, Nat.le_of_ble_eq_true rfl⟩, hts _ mw_236, trivial⟩ hK hP hD hS hA hZ rfl hl.1 rfl (Nat.le_of_ble_eq_true rfl) dX6_tellCrosses_20 ⟨Nat.zero_le _, Nat.zero_le _⟩ (fun H locs hP hD hS => ?_)
          refine lv_iconst (v := 2) hx hb dX6_tellCrosses_23 (by decide) ?_
          obtain ⟨b8, h⟩ := gx_in h
          refine va_iast (D := D) hx hb hK hP hD hS 19 0 rfl rfl b8 dX6_tellCrosses_24 (fun H locs hP hD hS => ?_)
          obtain ⟨u9, eu9, h⟩ := gx_let h
          replace hP : va_P D vwCl (wC cI cZ ad u9) H := by rw [← eu9]; exact hP
          replace hD : va_D A (wC cI cZ ad u9) := by rw [← eu9]; exact hD
          exact hj25_3 u9 _ _ _ h hP hD hS (lv_sub hl [0, 1, 2] rfl)
  refine hL2 _ (fun w2 H locs ls h hP hD hS hl => ?_) FU (0 : Int32) u _ _ _ h hP hD hS (lv_sub hl [1, 2, 0] rfl)
  cases h
  exact cc_vret hx hb hr hQ hK hP hD hS dX6_tellCrosses_31 hlocks

def rX9_isWithin : Room := { frames := 0, cells := 0, slots := 0, locals := 0 }
set_option maxHeartbeats 4000000 in
set_option maxRecDepth 100000 in
theorem k_X9_isWithin (l : Launch) (D : va_G) (cI cZ : ClassId) (ad : Nat → Nat) (u : GS) (p0 : Int32) (p1 : Int32) (p2 : Int32) {r : Int32} (h : g_X9_isWithin p0 p1 p2 = some r) : MI l yX9_isWithin (wm yX9_isWithin cX9_isWithin 3 (some .boolean)) rX9_isWithin D [(cI, .int), (cZ, .boolean)] (wC cI cZ ad u) (wC cI cZ ad u) [.int p0, .int p1, .int p2] r := by
  intro sz
  refine Met.ofW (cc := cX9_isWithin) (maxL := 3) (ret := (some .boolean)) (by decide) rfl ?_
  intro p e s m args below meth c s₁ B hml hv
  obtain ⟨rfl, hsz, hP, hK, hD0, hZ⟩ := hv
  have hx := B.exec
  have hb := B.bytes
  have hr := B.returns
  have hts : ∀ w ∈ Wall, w.before _ s = true := fun w hw => atoms_spec (ws := wm yX9_isWithin cX9_isWithin 3 (some .boolean)) B.pre w (List.mem_cons_of_mem _ hw)
  have hown : s.vm.findClass RX9 = some m.cls := findClass_of_methodNamed B.named
  have hlocks := B.notSynchronized
  subst hsz
  have hD := hD0.self (sz := s.heap.size)
  generalize hAe : va_A (wC cI cZ ad u) s.heap.size = A at hD hZ ⊢
  have hA : ∀ q : Nat, s.heap.size ≤ q → A q := fun q h => by rw [← hAe]; exact Or.inr h
  have hS : va_S A s.heap s.heap [] := va_S.rf
  have hl := lv_entry ([.int p0, .int p1, .int p2]) (n := 3) (Nat.le_of_ble_eq_true rfl)
  rw [lg_entry_eq]
  generalize (lg_sl ([.int p0, .int p1, .int p2]) ++ List.replicate (3 - (lg_sl ([.int p0, .int p1, .int p2])).length) Slot.unset).toArray = ls at hl ⊢
  replace hl : lv_has ls 3 [(0, .int p0), (1, .int p1), (2, .int p2)] := hl
  refine w_gen (fun Q hQ => ?_)
  refine lv_iload_n hx hb dX9_isWithin_0 rfl (lv_at hl 0 rfl) ?_
  refine lv_iload_n hx hb dX9_isWithin_1 rfl (lv_at hl 1 rfl) ?_
  refine lv_icmp_lt (tgt := 14) hx hb dX9_isWithin_2 (by decide) (fun c1 => ?_) (fun c1 => ?_)
  · replace h := gx_t c1 h
    refine lv_iconst (v := 0) hx hb dX9_isWithin_14 (by decide) ?_
    cases h
    exact cc_ret hx hb hr rfl hQ hK hP hD hS rfl dX9_isWithin_15 hlocks
  · replace h := gx_f c1 h
    refine lv_iload_n hx hb dX9_isWithin_5 rfl (lv_at hl 0 rfl) ?_
    refine lv_iload_n hx hb dX9_isWithin_6 rfl (lv_at hl 2 rfl) ?_
    refine lv_icmp_gt (tgt := 14) hx hb dX9_isWithin_7 (by decide) (fun c2 => ?_) (fun c2 => ?_)
    · replace h := gx_t c2 h
      refine lv_iconst (v := 0) hx hb dX9_isWithin_14 (by decide) ?_
      cases h
      exact cc_ret hx hb hr rfl hQ hK hP hD hS rfl dX9_isWithin_15 hlocks
    · replace h := gx_f c2 h
      refine lv_iconst (v := 1) hx hb dX9_isWithin_10 (by decide) ?_
      refine lv_goto (tgt := 15) hx hb dX9_isWithin_11 (by decide) ?_
      cases h
      exact cc_ret hx hb hr rfl hQ hK hP hD hS rfl dX9_isWithin_15 hlocks

def rX2_tellCrosses : Room := { frames := 1, cells := 0, slots := 0, locals := 22 }
set_option maxHeartbeats 4000000 in
set_option maxRecDepth 100000 in
theorem k_X2_tellCrosses (l : Launch) (D : va_G) (cI cZ : ClassId) (ad : Nat → Nat) (u : GS) {w' : GS} (h : g_X2_tellCrosses u = some w') : MV l yX2_tellCrosses (wm yX2_tellCrosses cX2_tellCrosses 3 none) rX2_tellCrosses D [(cI, .int), (cZ, .boolean)] (wC cI cZ ad u) (wC cI cZ ad w') [.ref (ad 6), .ref (ad 19)] := by
  intro sz
  refine Met.ofW (cc := cX2_tellCrosses) (maxL := 3) (ret := none) (by decide) rfl ?_
  intro p e s m args below meth c s₁ B hml hv
  obtain ⟨rfl, hsz, hP, hK, hD0, hZ⟩ := hv
  have hx := B.exec
  have hb := B.bytes
  have hr := B.returns
  have hts : ∀ w ∈ Wall, w.before _ s = true := fun w hw => atoms_spec (ws := wm yX2_tellCrosses cX2_tellCrosses 3 none) B.pre w (List.mem_cons_of_mem _ hw)
  have hown : s.vm.findClass RX2 = some m.cls := findClass_of_methodNamed B.named
  have hlocks := B.notSynchronized
  subst hsz
  have hD := hD0.self (sz := s.heap.size)
  generalize hAe : va_A (wC cI cZ ad u) s.heap.size = A at hD hZ ⊢
  have hA : ∀ q : Nat, s.heap.size ≤ q → A q := fun q h => by rw [← hAe]; exact Or.inr h
  have hS : va_S A s.heap s.heap [] := va_S.rf
  have hf21 := hts _ mw_162
  have hf15 := hts _ mw_158
  have hf11 := hts _ mw_156
  have hl := lv_entry ([.ref (ad 6), .ref (ad 19)]) (n := 3) (Nat.le_of_ble_eq_true rfl)
  rw [lg_entry_eq]
  generalize (lg_sl ([.ref (ad 6), .ref (ad 19)]) ++ List.replicate (3 - (lg_sl ([.ref (ad 6), .ref (ad 19)])).length) Slot.unset).toArray = ls at hl ⊢
  replace hl : lv_has ls 3 [(0, .ref (ad 6)), (1, .ref (ad 19))] := hl
  refine w_gen (fun Q hQ => ?_)
  refine lv_iconst (v := 0) hx hb dX2_tellCrosses_0 (by decide) ?_
  refine lv_istore_n (lv' := [(2, .int (0 : Int32)), (0, .ref (ad 6)), (1, .ref (ad 19))]) hx hb dX2_tellCrosses_1 rfl hl (by decide) rfl (fun ls hl => ?_)
  have hL2 : ∀ (k : GS → Option (GS)) (hk : ∀ (w2 : GS) (H : Heap) (locs : List Loc) (ls : Array Slot), k w2 = some w' → va_P D vwCl (wC cI cZ ad w2) H → va_D A (wC cI cZ ad w2) → va_S A s.heap H locs → lv_has ls 3 [] → W p l e rX2_tellCrosses s m ([.ref (ad 6), .ref (ad 19)] : List Value).toArray below meth c H locs 0 0 Q (F0 m 56 ls [])) (n : Nat) (x2_2 : Int32) (w2 : GS) (H : Heap) (locs : List Loc) (ls : Array Slot), lp_X2_tellCrosses_2 k n x2_2 w2 = some w' → va_P D vwCl (wC cI cZ ad w2) H → va_D A (wC cI cZ ad w2) → va_S A s.heap H locs → lv_has ls 3 [(0, .ref (ad 6)), (1, .ref (ad 19)), (2, .int x2_2)] → W p l e rX2_tellCrosses s m ([.ref (ad 6), .ref (ad 19)] : List Value).toArray below meth c H locs 0 0 Q (F0 m 2 ls []) := by
    intro k hk n
    induction n with
    | zero =>
      intro x2_2 w2 H locs ls h
      rw [lp_X2_tellCrosses_2] at h
      cases h
    | succ n ih =>
      intro x2_2 w2 H locs ls h hP hD hS hl
      rw [lp_X2_tellCrosses_2] at h
      refine lv_iload_n hx hb dX2_tellCrosses_2 rfl (lv_at hl 2 rfl) ?_
      refine lv_bipush (v := 12) hx hb dX2_tellCrosses_3 (by decide) ?_
      refine lv_icmp_ge (tgt := 56) hx hb dX2_tellCrosses_5 (by decide) (fun c1 => ?_) (fun c1 => ?_)
      · replace h := gx_t c1 h
        exact hk w2 _ _ _ h hP hD hS (lv_sub hl [] rfl)
      · replace h := gx_f c1 h
        refine lv_iload_n hx hb dX2_tellCrosses_8 rfl (lv_at hl 2 rfl) ?_
        refine lv_aload_n hx hb dX2_tellCrosses_9 rfl (lv_at hl 0 rfl) ?_
        refine va_get (D := D) (ci := 2) (v := .int (cI_count w2)) (C := RX2) (T := TX2) (N := 4) hx hb hts iX2 hown hK hP 6 rfl rfl 3 (by decide) hf21 (fun _ h9 => h9) rfl dX2_tellCrosses_10 ?_
        obtain ⟨j50_2, ej50_2, h⟩ := gx_let h
        have hj50_2 : ∀ (w50 : GS) (H : Heap) (locs : List Loc) (ls : Array Slot), j50_2 w50 = some w' → va_P D vwCl (wC cI cZ ad w50) H → va_D A (wC cI cZ ad w50) → va_S A s.heap H locs → lv_has ls 3 [(0, .ref (ad 6)), (1, .ref (ad 19)), (2, .int x2_2)] → W p l e rX2_tellCrosses s m ([.ref (ad 6), .ref (ad 19)] : List Value).toArray below meth c H locs 0 0 Q (F0 m 50 ls []) := by
          intro w50 H locs ls h hP hD hS hl
          subst ej50_2
          obtain ⟨v3, ev3, h⟩ := gx_let h
          refine lv_iinc (v := v3) (lv' := [(2, .int v3), (0, .ref (ad 6)), (1, .ref (ad 19))]) hx hb dX2_tellCrosses_50 hl (k := 2) rfl (by rw [← ev3]; rfl) (by decide) rfl (fun ls hl => ?_)
          refine lv_goto (tgt := 2) hx hb dX2_tellCrosses_53 (by decide) ?_
          exact ih v3 w50 _ _ _ h hP hD hS (lv_sub hl [1, 2, 0] rfl)
        refine lv_icmp_ge (tgt := 50) hx hb dX2_tellCrosses_13 (by decide) (fun c4 => ?_) (fun c4 => ?_)
        · replace h := gx_t c4 h
          exact hj50_2 w2 _ _ _ h hP hD hS (lv_sub hl [0, 1, 2] rfl)
        · replace h := gx_f c4 h
          refine lv_aload_n hx hb dX2_tellCrosses_16 rfl (lv_at hl 0 rfl) ?_
          refine va_get (D := D) (ci := 2) (v := .ref (ad 24)) (C := RX2) (T := TX2) (N := 4) hx hb hts iX2 hown hK hP 6 rfl rfl 1 (by decide) hf15 (fun _ h9 => h9) rfl dX2_tellCrosses_17 ?_
          refine lv_iload_n hx hb dX2_tellCrosses_20 rfl (lv_at hl 2 rfl) ?_
          obtain ⟨b5, h⟩ := gx_in h
          refine va_iald (D := D) hx hb hK hP 24 0 rfl rfl b5 dX2_tellCrosses_21 ?_
          refine lv_iconst (v := 1) hx hb dX2_tellCrosses_22 (by decide) ?_
          refine lv_icmp_ne (tgt := 50) hx hb dX2_tellCrosses_23 (by decide) (fun c6 => ?_) (fun c6 => ?_)
          · replace h := gx_f c6 h
            exact hj50_2 w2 _ _ _ h hP hD hS (lv_sub hl [0, 1, 2] rfl)
          · replace h := gx_t c6 h
            refine lv_aload_n hx hb dX2_tellCrosses_26 rfl (lv_at hl 0 rfl) ?_
            refine va_get (D := D) (ci := 2) (v := .ref (ad 23)) (C := RX2) (T := TX2) (N := 4) hx hb hts iX2 hown hK hP 6 rfl rfl 0 (by decide) hf11 (fun _ h9 => h9) rfl dX2_tellCrosses_27 ?_
            refine lv_iload_n hx hb dX2_tellCrosses_30 rfl (lv_at hl 2 rfl) ?_
            obtain ⟨b7, h⟩ := gx_in h
            refine va_iald (D := D) hx hb hK hP 23 0 rfl rfl b7 dX2_tellCrosses_31 ?_
            refine lv_iconst (v := 0) hx hb dX2_tellCrosses_32 (by decide) ?_
            refine lv_bipush (v := 47) hx hb dX2_tellCrosses_33 (by decide) ?_
            obtain ⟨y8, hc9, h⟩ := gx_bind h
            refine cc_iSN (As := [.int (cI_places w2 x2_2.toNatClampNeg), .int (0 : Int32), .int (47 : Int32)]) (rest := []) ⟨hx, hb, hml, hown, hts⟩ (k_X9_isWithin l D cI cZ ad w2 (cI_places w2 x2_2.toNatClampNeg) (0 : Int32) (47 : Int32) hc9) ⟨va_cnB 3 hts (gwM mw_244) rfl rfl rfl (hZ.1 ("RedcrossGantry$Incidents", 25, yX9_isWithin) (by decide +kernel)) (hts _ mw_19) (by decide +kernel) ⟨Nat.le_of_ble_eq_true rfl, Nat.le_of_ble_eq_true rfl⟩, hts _ mw_243, trivial⟩ hK hP hD hS hA hZ rfl hl.1 rfl (Nat.le_of_ble_eq_true rfl) dX2_tellCrosses_35 ⟨Nat.zero_le _, Nat.zero_le _⟩ (fun H locs hP hD hS => ?_)
            refine lv_if_eq (tgt := 50) hx hb dX2_tellCrosses_38 (by decide) (fun c10 => ?_) (fun c10 => ?_)
            · replace h := gx_t c10 h
              exact hj50_2 w2 _ _ _ h hP hD hS (lv_sub hl [0, 1, 2] rfl)
            · replace h := gx_f c10 h
              refine lv_aload_n hx hb dX2_tellCrosses_41 rfl (lv_at hl 1 rfl) ?_
              refine lv_aload_n hx hb dX2_tellCrosses_42 rfl (lv_at hl 0 rfl) ?_
              refine va_get (D := D) (ci := 2) (v := .ref (ad 23)) (C := RX2) (T := TX2) (N := 4) hx hb hts iX2 hown hK hP 6 rfl rfl 0 (by decide) hf11 (fun _ h9 => h9) rfl dX2_tellCrosses_43 ?_
              refine lv_iload_n hx hb dX2_tellCrosses_46 rfl (lv_at hl 2 rfl) ?_
              obtain ⟨b11, h⟩ := gx_in h
              refine va_iald (D := D) hx hb hK hP 23 0 rfl rfl b11 dX2_tellCrosses_47 ?_
              refine lv_iconst (v := 2) hx hb dX2_tellCrosses_48 (by decide) ?_
              obtain ⟨b12, h⟩ := gx_in h
              refine va_iast (D := D) hx hb hK hP hD hS 19 0 rfl rfl b12 dX2_tellCrosses_49 (fun H locs hP hD hS => ?_)
              obtain ⟨u13, eu13, h⟩ := gx_let h
              replace hP : va_P D vwCl (wC cI cZ ad u13) H := by rw [← eu13]; exact hP
              replace hD : va_D A (wC cI cZ ad u13) := by rw [← eu13]; exact hD
              exact hj50_2 u13 _ _ _ h hP hD hS (lv_sub hl [0, 1, 2] rfl)
  refine hL2 _ (fun w2 H locs ls h hP hD hS hl => ?_) FU (0 : Int32) u _ _ _ h hP hD hS (lv_sub hl [1, 2, 0] rfl)
  cases h
  exact cc_vret hx hb hr hQ hK hP hD hS dX2_tellCrosses_56 hlocks

def rX0_isRunning : Room := { frames := 1, cells := 0, slots := 0, locals := 22 }
set_option maxHeartbeats 4000000 in
set_option maxRecDepth 100000 in
theorem k_X0_isRunning (l : Launch) (D : va_G) (cI cZ : ClassId) (ad : Nat → Nat) (u : GS) (p0 : Int32) (p1 : Int32) {r : Int32} (h : g_X0_isRunning u p0 p1 = some r) : MI l yX0_isRunning (wm yX0_isRunning cX0_isRunning 3 (some .boolean)) rX0_isRunning D [(cI, .int), (cZ, .boolean)] (wC cI cZ ad u) (wC cI cZ ad u) [.ref (ad 8), .int p0, .int p1] r := by
  intro sz
  refine Met.ofW (cc := cX0_isRunning) (maxL := 3) (ret := (some .boolean)) (by decide) rfl ?_
  intro p e s m args below meth c s₁ B hml hv
  obtain ⟨rfl, hsz, hP, hK, hD0, hZ⟩ := hv
  have hx := B.exec
  have hb := B.bytes
  have hr := B.returns
  have hts : ∀ w ∈ Wall, w.before _ s = true := fun w hw => atoms_spec (ws := wm yX0_isRunning cX0_isRunning 3 (some .boolean)) B.pre w (List.mem_cons_of_mem _ hw)
  have hown : s.vm.findClass RX0 = some m.cls := findClass_of_methodNamed B.named
  have hlocks := B.notSynchronized
  subst hsz
  have hD := hD0.self (sz := s.heap.size)
  generalize hAe : va_A (wC cI cZ ad u) s.heap.size = A at hD hZ ⊢
  have hA : ∀ q : Nat, s.heap.size ≤ q → A q := fun q h => by rw [← hAe]; exact Or.inr h
  have hS : va_S A s.heap s.heap [] := va_S.rf
  have hf21 := hts _ mw_200
  have hf24 := hts _ mw_201
  have hl := lv_entry ([.ref (ad 8), .int p0, .int p1]) (n := 3) (Nat.le_of_ble_eq_true rfl)
  rw [lg_entry_eq]
  generalize (lg_sl ([.ref (ad 8), .int p0, .int p1]) ++ List.replicate (3 - (lg_sl ([.ref (ad 8), .int p0, .int p1])).length) Slot.unset).toArray = ls at hl ⊢
  replace hl : lv_has ls 3 [(0, .ref (ad 8)), (1, .int p0), (2, .int p1)] := hl
  refine w_gen (fun Q hQ => ?_)
  refine lv_iload_n hx hb dX0_isRunning_0 rfl (lv_at hl 1 rfl) ?_
  refine lv_iconst (v := 0) hx hb dX0_isRunning_1 (by decide) ?_
  refine lv_bipush (v := 7) hx hb dX0_isRunning_2 (by decide) ?_
  obtain ⟨y1, hc2, h⟩ := gx_bind h
  refine cc_iSN (As := [.int p0, .int (0 : Int32), .int (7 : Int32)]) (rest := []) ⟨hx, hb, hml, hown, hts⟩ (k_X9_isWithin l D cI cZ ad u p0 (0 : Int32) (7 : Int32) hc2) ⟨va_cnB 3 hts (gwM mw_244) rfl rfl rfl (hZ.1 ("RedcrossGantry$Bookings", 31, yX9_isWithin) (by decide +kernel)) (hts _ mw_19) (by decide +kernel) ⟨Nat.le_of_ble_eq_true rfl, Nat.le_of_ble_eq_true rfl⟩, hts _ mw_243, trivial⟩ hK hP hD hS hA hZ rfl hl.1 rfl (Nat.le_of_ble_eq_true rfl) dX0_isRunning_4 ⟨Nat.zero_le _, Nat.zero_le _⟩ (fun H locs hP hD hS => ?_)
  refine lv_if_eq (tgt := 34) hx hb dX0_isRunning_7 (by decide) (fun c3 => ?_) (fun c3 => ?_)
  · replace h := gx_t c3 h
    refine lv_iconst (v := 0) hx hb dX0_isRunning_34 (by decide) ?_
    cases h
    exact cc_ret hx hb hr rfl hQ hK hP hD hS rfl dX0_isRunning_35 hlocks
  · replace h := gx_f c3 h
    refine lv_aload_n hx hb dX0_isRunning_10 rfl (lv_at hl 0 rfl) ?_
    refine va_get (D := D) (ci := 0) (v := .ref (ad 32)) (C := RX0) (T := TX0) (N := 6) hx hb hts iX0 hown hK hP 8 rfl rfl 3 (by decide) hf21 (fun _ h9 => h9) rfl dX0_isRunning_11 ?_
    refine lv_iload_n hx hb dX0_isRunning_14 rfl (lv_at hl 1 rfl) ?_
    obtain ⟨b4, h⟩ := gx_in h
    refine va_iald (D := D) hx hb hK hP 32 0 rfl rfl b4 dX0_isRunning_15 ?_
    refine lv_iload_n hx hb dX0_isRunning_16 rfl (lv_at hl 2 rfl) ?_
    refine lv_icmp_gt (tgt := 34) hx hb dX0_isRunning_17 (by decide) (fun c5 => ?_) (fun c5 => ?_)
    · replace h := gx_t c5 h
      refine lv_iconst (v := 0) hx hb dX0_isRunning_34 (by decide) ?_
      cases h
      exact cc_ret hx hb hr rfl hQ hK hP hD hS rfl dX0_isRunning_35 hlocks
    · replace h := gx_f c5 h
      refine lv_iload_n hx hb dX0_isRunning_20 rfl (lv_at hl 2 rfl) ?_
      refine lv_aload_n hx hb dX0_isRunning_21 rfl (lv_at hl 0 rfl) ?_
      refine va_get (D := D) (ci := 0) (v := .ref (ad 33)) (C := RX0) (T := TX0) (N := 6) hx hb hts iX0 hown hK hP 8 rfl rfl 4 (by decide) hf24 (fun _ h9 => h9) rfl dX0_isRunning_22 ?_
      refine lv_iload_n hx hb dX0_isRunning_25 rfl (lv_at hl 1 rfl) ?_
      obtain ⟨b6, h⟩ := gx_in h
      refine va_iald (D := D) hx hb hK hP 33 0 rfl rfl b6 dX0_isRunning_26 ?_
      refine lv_icmp_ge (tgt := 34) hx hb dX0_isRunning_27 (by decide) (fun c7 => ?_) (fun c7 => ?_)
      · replace h := gx_t c7 h
        refine lv_iconst (v := 0) hx hb dX0_isRunning_34 (by decide) ?_
        cases h
        exact cc_ret hx hb hr rfl hQ hK hP hD hS rfl dX0_isRunning_35 hlocks
      · replace h := gx_f c7 h
        refine lv_iconst (v := 1) hx hb dX0_isRunning_30 (by decide) ?_
        refine lv_goto (tgt := 35) hx hb dX0_isRunning_31 (by decide) ?_
        cases h
        exact cc_ret hx hb hr rfl hQ hK hP hD hS rfl dX0_isRunning_35 hlocks

def rX0_tellCrossesOf : Room := { frames := 1, cells := 0, slots := 0, locals := 22 }
set_option maxHeartbeats 4000000 in
set_option maxRecDepth 100000 in
theorem k_X0_tellCrossesOf (l : Launch) (D : va_G) (cI cZ : ClassId) (ad : Nat → Nat) (u : GS) (p0 : Int32) {w' : GS} (h : g_X0_tellCrossesOf u p0 = some w') : MV l yX0_tellCrossesOf (wm yX0_tellCrossesOf cX0_tellCrossesOf 5 none) rX0_tellCrossesOf D [(cI, .int), (cZ, .boolean)] (wC cI cZ ad u) (wC cI cZ ad w') [.ref (ad 8), .int p0, .ref (ad 19)] := by
  intro sz
  refine Met.ofW (cc := cX0_tellCrossesOf) (maxL := 5) (ret := none) (by decide) rfl ?_
  intro p e s m args below meth c s₁ B hml hv
  obtain ⟨rfl, hsz, hP, hK, hD0, hZ⟩ := hv
  have hx := B.exec
  have hb := B.bytes
  have hr := B.returns
  have hts : ∀ w ∈ Wall, w.before _ s = true := fun w hw => atoms_spec (ws := wm yX0_tellCrossesOf cX0_tellCrossesOf 5 none) B.pre w (List.mem_cons_of_mem _ hw)
  have hown : s.vm.findClass RX0 = some m.cls := findClass_of_methodNamed B.named
  have hlocks := B.notSynchronized
  subst hsz
  have hD := hD0.self (sz := s.heap.size)
  generalize hAe : va_A (wC cI cZ ad u) s.heap.size = A at hD hZ ⊢
  have hA : ∀ q : Nat, s.heap.size ≤ q → A q := fun q h => by rw [← hAe]; exact Or.inr h
  have hS : va_S A s.heap s.heap [] := va_S.rf
  have hf11 := hts _ mw_197
  have hf15 := hts _ mw_198
  have hf18 := hts _ mw_199
  have hl := lv_entry ([.ref (ad 8), .int p0, .ref (ad 19)]) (n := 5) (Nat.le_of_ble_eq_true rfl)
  rw [lg_entry_eq]
  generalize (lg_sl ([.ref (ad 8), .int p0, .ref (ad 19)]) ++ List.replicate (5 - (lg_sl ([.ref (ad 8), .int p0, .ref (ad 19)])).length) Slot.unset).toArray = ls at hl ⊢
  replace hl : lv_has ls 5 [(0, .ref (ad 8)), (1, .int p0), (2, .ref (ad 19))] := hl
  refine w_gen (fun Q hQ => ?_)
  refine lv_iconst (v := 0) hx hb dX0_tellCrossesOf_0 (by decide) ?_
  refine lv_istore_n (lv' := [(3, .int (0 : Int32)), (0, .ref (ad 8)), (1, .int p0), (2, .ref (ad 19))]) hx hb dX0_tellCrossesOf_1 rfl hl (by decide) rfl (fun ls hl => ?_)
  have hL2 : ∀ (k : GS → Option (GS)) (hk : ∀ (w2 : GS) (H : Heap) (locs : List Loc) (ls : Array Slot), k w2 = some w' → va_P D vwCl (wC cI cZ ad w2) H → va_D A (wC cI cZ ad w2) → va_S A s.heap H locs → lv_has ls 5 [] → W p l e rX0_tellCrossesOf s m ([.ref (ad 8), .int p0, .ref (ad 19)] : List Value).toArray below meth c H locs 0 0 Q (F0 m 61 ls [])) (n : Nat) (x3_2 : Int32) (w2 : GS) (H : Heap) (locs : List Loc) (ls : Array Slot), lp_X0_tellCrossesOf_2 p0 k n x3_2 w2 = some w' → va_P D vwCl (wC cI cZ ad w2) H → va_D A (wC cI cZ ad w2) → va_S A s.heap H locs → lv_has ls 5 [(0, .ref (ad 8)), (1, .int p0), (2, .ref (ad 19)), (3, .int x3_2)] → W p l e rX0_tellCrossesOf s m ([.ref (ad 8), .int p0, .ref (ad 19)] : List Value).toArray below meth c H locs 0 0 Q (F0 m 2 ls []) := by
    intro k hk n
    induction n with
    | zero =>
      intro x3_2 w2 H locs ls h
      rw [lp_X0_tellCrossesOf_2] at h
      cases h
    | succ n ih =>
      intro x3_2 w2 H locs ls h hP hD hS hl
      rw [lp_X0_tellCrossesOf_2] at h
      refine lv_iload_n hx hb dX0_tellCrossesOf_2 rfl (lv_at hl 3 rfl) ?_
      refine lv_bipush (v := 12) hx hb dX0_tellCrossesOf_3 (by decide) ?_
      refine lv_icmp_ge (tgt := 61) hx hb dX0_tellCrossesOf_5 (by decide) (fun c1 => ?_) (fun c1 => ?_)
      · replace h := gx_t c1 h
        exact hk w2 _ _ _ h hP hD hS (lv_sub hl [] rfl)
      · replace h := gx_f c1 h
        refine lv_iload_n hx hb dX0_tellCrossesOf_8 rfl (lv_at hl 3 rfl) ?_
        refine lv_aload_n hx hb dX0_tellCrossesOf_9 rfl (lv_at hl 0 rfl) ?_
        refine va_get (D := D) (ci := 0) (v := .ref (ad 29)) (C := RX0) (T := TX0) (N := 6) hx hb hts iX0 hown hK hP 8 rfl rfl 0 (by decide) hf11 (fun _ h9 => h9) rfl dX0_tellCrossesOf_10 ?_
        refine lv_iload_n hx hb dX0_tellCrossesOf_13 rfl (lv_at hl 1 rfl) ?_
        obtain ⟨b2, h⟩ := gx_in h
        refine va_iald (D := D) hx hb hK hP 29 0 rfl rfl b2 dX0_tellCrossesOf_14 ?_
        obtain ⟨y3, hc4, h⟩ := gx_bind h
        refine cc_iSN (As := [.int x3_2, .int (cB_lanes w2 p0.toNatClampNeg)]) (rest := []) ⟨hx, hb, hml, hown, hts⟩ (k_X9_placeOf l D cI cZ ad w2 x3_2 (cB_lanes w2 p0.toNatClampNeg) hc4) ⟨va_cnB 2 hts (gwM mw_237) rfl rfl rfl (hZ.1 ("RedcrossGantry$Bookings", 49, yX9_placeOf) (by decide +kernel)) (hts _ mw_19) (by decide +kernel) ⟨Nat.le_of_ble_eq_true rfl, Nat.le_of_ble_eq_true rfl⟩, hts _ mw_236, trivial⟩ hK hP hD hS hA hZ rfl hl.1 rfl (Nat.le_of_ble_eq_true rfl) dX0_tellCrossesOf_15 ⟨Nat.zero_le _, Nat.zero_le _⟩ (fun H locs hP hD hS => ?_)
        refine lv_istore (lv' := [(4, .int y3), (0, .ref (ad 8)), (1, .int p0), (2, .ref (ad 19)), (3, .int x3_2)]) hx hb dX0_tellCrossesOf_18 hl (by decide) rfl (fun ls hl => ?_)
        refine lv_iload_n hx hb dX0_tellCrossesOf_20 rfl (lv_at hl 4 rfl) ?_
        refine lv_aload_n hx hb dX0_tellCrossesOf_21 rfl (lv_at hl 1 rfl) ?_
        refine va_get (D := D) (ci := 0) (v := .ref (ad 30)) (C := RX0) (T := TX0) (N := 6) hx hb hts iX0 hown hK hP 8 rfl rfl 1 (by decide) hf15 (fun _ h9 => h9) rfl dX0_tellCrossesOf_22 ?_
        refine lv_iload_n hx hb dX0_tellCrossesOf_25 rfl (lv_at hl 2 rfl) ?_
        obtain ⟨b5, h⟩ := gx_in h
        refine va_iald (D := D) hx hb hK hP 30 0 rfl rfl b5 dX0_tellCrossesOf_26 ?_
        refine lv_aload_n hx hb dX0_tellCrossesOf_27 rfl (lv_at hl 1 rfl) ?_
        refine va_get (D := D) (ci := 0) (v := .ref (ad 31)) (C := RX0) (T := TX0) (N := 6) hx hb hts iX0 hown hK hP 8 rfl rfl 2 (by decide) hf18 (fun _ h9 => h9) rfl dX0_tellCrossesOf_28 ?_
        refine lv_iload_n hx hb dX0_tellCrossesOf_31 rfl (lv_at hl 2 rfl) ?_
        obtain ⟨b6, h⟩ := gx_in h
        refine va_iald (D := D) hx hb hK hP 31 0 rfl rfl b6 dX0_tellCrossesOf_32 ?_
        obtain ⟨y7, hc8, h⟩ := gx_bind h
        refine cc_iSN (As := [.int x3_2, .int (cB_froms w2 p0.toNatClampNeg), .int (cB_tos w2 p0.toNatClampNeg)]) (rest := []) ⟨hx, hb, hml, hown, hts⟩ (k_X9_isWithin l D cI cZ ad w2 x3_2 (cB_froms w2 p0.toNatClampNeg) (cB_tos w2 p0.toNatClampNeg) hc8) ⟨va_cnB 3 hts (gwM mw_244) rfl rfl rfl (hZ.1 ("RedcrossGantry$Bookings", 31, yX9_isWithin) (by decide +kernel)) (hts _ mw_19) (by decide +kernel) ⟨Nat.le_of_ble_eq_true rfl, Nat.le_of_ble_eq_true rfl⟩, hts _ mw_243, trivial⟩ hK hP hD hS hA hZ rfl hl.1 rfl (Nat.le_of_ble_eq_true rfl) dX0_tellCrossesOf_33 ⟨Nat.zero_le _, Nat.zero_le _⟩ (fun H locs hP hD hS => ?_)
        obtain ⟨j55_9, ej55_9, h⟩ := gx_let h
        have hj55_9 : ∀ (w55 : GS) (H : Heap) (locs : List Loc) (ls : Array Slot), j55_9 w55 = some w' → va_P D vwCl (wC cI cZ ad w55) H → va_D A (wC cI cZ ad w55) → va_S A s.heap H locs → lv_has ls 5 [(0, .ref (ad 8)), (1, .int p0), (2, .ref (ad 19)), (3, .int x3_2)] → W p l e rX0_tellCrossesOf s m ([.ref (ad 8), .int p0, .ref (ad 19)] : List Value).toArray below meth c H locs 0 0 Q (F0 m 55 ls []) := by
          intro w55 H locs ls h hP hD hS hl
          subst ej55_9
          obtain ⟨v10, ev10, h⟩ := gx_let h
          refine lv_iinc (v := v10) (lv' := [(3, .int v10), (0, .ref (ad 8)), (1, .int p0), (2, .ref (ad 19))]) hx hb dX0_tellCrossesOf_55 hl (k := 3) rfl (by rw [← ev10]; rfl) (by decide) rfl (fun ls hl => ?_)
          refine lv_goto (tgt := 2) hx hb dX0_tellCrossesOf_58 (by decide) ?_
          exact ih v10 w55 _ _ _ h hP hD hS (lv_sub hl [1, 2, 3, 0] rfl)
        refine lv_if_eq (tgt := 55) hx hb dX0_tellCrossesOf_36 (by decide) (fun c11 => ?_) (fun c11 => ?_)
        · replace h := gx_t c11 h
          exact hj55_9 w2 _ _ _ h hP hD hS (lv_sub hl [1, 2, 3, 4] rfl)
        · replace h := gx_f c11 h
          refine lv_iload hx hb dX0_tellCrossesOf_39 (lv_at hl 0 rfl) ?_
          refine lv_iconst (v := 0) hx hb dX0_tellCrossesOf_41 (by decide) ?_
          refine lv_bipush (v := 47) hx hb dX0_tellCrossesOf_42 (by decide) ?_
          obtain ⟨y12, hc13, h⟩ := gx_bind h
          refine cc_iSN (As := [.int y3, .int (0 : Int32), .int (47 : Int32)]) (rest := []) ⟨hx, hb, hml, hown, hts⟩ (k_X9_isWithin l D cI cZ ad w2 y3 (0 : Int32) (47 : Int32) hc13) ⟨va_cnB 3 hts (gwM mw_244) rfl rfl rfl (hZ.1 ("RedcrossGantry$Bookings", 31, yX9_isWithin) (by decide +kernel)) (hts _ mw_19) (by decide +kernel) ⟨Nat.le_of_ble_eq_true rfl, Nat.le_of_ble_eq_true rfl⟩, hts _ mw_243, trivial⟩ hK hP hD hS hA hZ rfl hl.1 rfl (Nat.le_of_ble_eq_true rfl) dX0_tellCrossesOf_44 ⟨Nat.zero_le _, Nat.zero_le _⟩ (fun H locs hP hD hS => ?_)
          refine lv_if_eq (tgt := 55) hx hb dX0_tellCrossesOf_47 (by decide) (fun c14 => ?_) (fun c14 => ?_)
          · replace h := gx_t c14 h
            exact hj55_9 w2 _ _ _ h hP hD hS (lv_sub hl [1, 2, 3, 4] rfl)
          · replace h := gx_f c14 h
            refine lv_aload_n hx hb dX0_tellCrossesOf_50 rfl (lv_at hl 3 rfl) ?_
            refine lv_iload hx hb dX0_tellCrossesOf_51 (lv_at hl 0 rfl) ?_
            refine lv_iconst (v := 2) hx hb dX0_tellCrossesOf_53 (by decide) ?_
            obtain ⟨b15, h⟩ := gx_in h
            refine va_iast (D := D) hx hb hK hP hD hS 19 0 rfl rfl b15 dX0_tellCrossesOf_54 (fun H locs hP hD hS => ?_)
            obtain ⟨u16, eu16, h⟩ := gx_let h
            replace hP : va_P D vwCl (wC cI cZ ad u16) H := by rw [← eu16]; exact hP
            replace hD : va_D A (wC cI cZ ad u16) := by rw [← eu16]; exact hD
            exact hj55_9 u16 _ _ _ h hP hD hS (lv_sub hl [1, 2, 3, 4] rfl)
  refine hL2 _ (fun w2 H locs ls h hP hD hS hl => ?_) FU (0 : Int32) u _ _ _ h hP hD hS (lv_sub hl [1, 2, 3, 0] rfl)
  cases h
  exact cc_vret hx hb hr hQ hK hP hD hS dX0_tellCrossesOf_61 hlocks

def rX0_tellCrosses : Room := { frames := 2, cells := 0, slots := 0, locals := 46 }
set_option maxHeartbeats 4000000 in
set_option maxRecDepth 100000 in
theorem k_X0_tellCrosses (l : Launch) (D : va_G) (cI cZ : ClassId) (ad : Nat → Nat) (u : GS) (p0 : Int32) {w' : GS} (h : g_X0_tellCrosses u p0 = some w') : MV l yX0_tellCrosses (wm yX0_tellCrosses cX0_tellCrosses 4 none) rX0_tellCrosses D [(cI, .int), (cZ, .boolean)] (wC cI cZ ad u) (wC cI cZ ad w') [.ref (ad 8), .ref (ad 19), .int p0] := by
  intro sz
  refine Met.ofW (cc := cX0_tellCrosses) (maxL := 4) (ret := none) (by decide) rfl ?_
  intro p e s m args below meth c s₁ B hml hv
  obtain ⟨rfl, hsz, hP, hK, hD0, hZ⟩ := hv
  have hx := B.exec
  have hb := B.bytes
  have hr := B.returns
  have hts : ∀ w ∈ Wall, w.before _ s = true := fun w hw => atoms_spec (ws := wm yX0_tellCrosses cX0_tellCrosses 4 none) B.pre w (List.mem_cons_of_mem _ hw)
  have hown : s.vm.findClass RX0 = some m.cls := findClass_of_methodNamed B.named
  have hlocks := B.notSynchronized
  subst hsz
  have hD := hD0.self (sz := s.heap.size)
  generalize hAe : va_A (wC cI cZ ad u) s.heap.size = A at hD hZ ⊢
  have hA : ∀ q : Nat, s.heap.size ≤ q → A q := fun q h => by rw [← hAe]; exact Or.inr h
  have hS : va_S A s.heap s.heap [] := va_S.rf
  have hf27 := hts _ mw_202
  have hl := lv_entry ([.ref (ad 8), .ref (ad 19), .int p0]) (n := 4) (Nat.le_of_ble_eq_true rfl)
  rw [lg_entry_eq]
  generalize (lg_sl ([.ref (ad 8), .ref (ad 19), .int p0]) ++ List.replicate (4 - (lg_sl ([.ref (ad 8), .ref (ad 19), .int p0])).length) Slot.unset).toArray = ls at hl ⊢
  replace hl : lv_has ls 4 [(0, .ref (ad 8)), (1, .ref (ad 19)), (2, .int p0)] := hl
  refine w_gen (fun Q hQ => ?_)
  refine lv_iconst (v := 0) hx hb dX0_tellCrosses_0 (by decide) ?_
  refine lv_istore_n (lv' := [(3, .int (0 : Int32)), (0, .ref (ad 8)), (1, .ref (ad 19)), (2, .int p0)]) hx hb dX0_tellCrosses_1 rfl hl (by decide) rfl (fun ls hl => ?_)
  have hL2 : ∀ (k : GS → Option (GS)) (hk : ∀ (w2 : GS) (H : Heap) (locs : List Loc) (ls : Array Slot), k w2 = some w' → va_P D vwCl (wC cI cZ ad w2) H → va_D A (wC cI cZ ad w2) → va_S A s.heap H locs → lv_has ls 4 [] → W p l e rX0_tellCrosses s m ([.ref (ad 8), .ref (ad 19), .int p0] : List Value).toArray below meth c H locs 0 0 Q (F0 m 37 ls [])) (n : Nat) (x3_2 : Int32) (w2 : GS) (H : Heap) (locs : List Loc) (ls : Array Slot), lp_X0_tellCrosses_2 p0 k n x3_2 w2 = some w' → va_P D vwCl (wC cI cZ ad w2) H → va_D A (wC cI cZ ad w2) → va_S A s.heap H locs → lv_has ls 4 [(0, .ref (ad 8)), (1, .ref (ad 19)), (2, .int p0), (3, .int x3_2)] → W p l e rX0_tellCrosses s m ([.ref (ad 8), .ref (ad 19), .int p0] : List Value).toArray below meth c H locs 0 0 Q (F0 m 2 ls []) := by
    intro k hk n
    induction n with
    | zero =>
      intro x3_2 w2 H locs ls h
      rw [lp_X0_tellCrosses_2] at h
      cases h
    | succ n ih =>
      intro x3_2 w2 H locs ls h hP hD hS hl
      rw [lp_X0_tellCrosses_2] at h
      refine lv_iload_n hx hb dX0_tellCrosses_2 rfl (lv_at hl 3 rfl) ?_
      refine lv_bipush (v := 8) hx hb dX0_tellCrosses_3 (by decide) ?_
      refine lv_icmp_ge (tgt := 37) hx hb dX0_tellCrosses_5 (by decide) (fun c1 => ?_) (fun c1 => ?_)
      · replace h := gx_t c1 h
        exact hk w2 _ _ _ h hP hD hS (lv_sub hl [] rfl)
      · replace h := gx_f c1 h
        refine lv_iload_n hx hb dX0_tellCrosses_8 rfl (lv_at hl 3 rfl) ?_
        refine lv_aload_n hx hb dX0_tellCrosses_9 rfl (lv_at hl 0 rfl) ?_
        refine va_get (D := D) (ci := 0) (v := .int (cB_count w2)) (C := RX0) (T := TX0) (N := 6) hx hb hts iX0 hown hK hP 8 rfl rfl 5 (by decide) hf27 (fun _ h9 => h9) rfl dX0_tellCrosses_10 ?_
        obtain ⟨j31_2, ej31_2, h⟩ := gx_let h
        have hj31_2 : ∀ (w31 : GS) (H : Heap) (locs : List Loc) (ls : Array Slot), j31_2 w31 = some w' → va_P D vwCl (wC cI cZ ad w31) H → va_D A (wC cI cZ ad w31) → va_S A s.heap H locs → lv_has ls 4 [(0, .ref (ad 8)), (1, .ref (ad 19)), (2, .int p0), (3, .int x3_2)] → W p l e rX0_tellCrosses s m ([.ref (ad 8), .ref (ad 19), .int p0] : List Value).toArray below meth c H locs 0 0 Q (F0 m 31 ls []) := by
          intro w31 H locs ls h hP hD hS hl
          subst ej31_2
          obtain ⟨v3, ev3, h⟩ := gx_let h
          refine lv_iinc (v := v3) (lv' := [(3, .int v3), (0, .ref (ad 8)), (1, .ref (ad 19)), (2, .int p0)]) hx hb dX0_tellCrosses_31 hl (k := 3) rfl (by rw [← ev3]; rfl) (by decide) rfl (fun ls hl => ?_)
          refine lv_goto (tgt := 2) hx hb dX0_tellCrosses_34 (by decide) ?_
          exact ih v3 w31 _ _ _ h hP hD hS (lv_sub hl [1, 2, 3, 0] rfl)
        refine lv_icmp_ge (tgt := 31) hx hb dX0_tellCrosses_13 (by decide) (fun c4 => ?_) (fun c4 => ?_)
        · replace h := gx_t c4 h
          exact hj31_2 w2 _ _ _ h hP hD hS (lv_sub hl [0, 1, 2, 3] rfl)
        · replace h := gx_f c4 h
          refine lv_aload_n hx hb dX0_tellCrosses_16 rfl (lv_at hl 0 rfl) ?_
          refine lv_iload_n hx hb dX0_tellCrosses_17 rfl (lv_at hl 3 rfl) ?_
          refine lv_iload_n hx hb dX0_tellCrosses_18 rfl (lv_at hl 2 rfl) ?_
          obtain ⟨y5, hc6, h⟩ := gx_bind h
          refine cc_iV (As := [.int x3_2, .int p0]) (rest := []) ⟨hx, hb, hml, hown, hts⟩ (k_X0_isRunning l D cI cZ ad w2 x3_2 p0 hc6) (cwV 2 hts (gwV mw_249 mw_250 mw_251 mw_27 mw_252) rfl rfl rfl (by decide +kernel) ⟨Nat.le_of_ble_eq_true rfl, Nat.le_of_ble_eq_true rfl⟩) hK hP hD hS hA hZ (ci := 0) (q0 := 8) rfl rfl rfl hl.1 rfl (Nat.le_of_ble_eq_true rfl) dX0_tellCrosses_19 ⟨Nat.zero_le _, Nat.zero_le _⟩ (fun H locs hP hD hS => ?_)
          refine lv_if_eq (tgt := 31) hx hb dX0_tellCrosses_22 (by decide) (fun c7 => ?_) (fun c7 => ?_)
          · replace h := gx_t c7 h
            exact hj31_2 w2 _ _ _ h hP hD hS (lv_sub hl [0, 1, 2, 3] rfl)
          · replace h := gx_f c7 h
            refine lv_aload_n hx hb dX0_tellCrosses_25 rfl (lv_at hl 0 rfl) ?_
            refine lv_iload_n hx hb dX0_tellCrosses_26 rfl (lv_at hl 3 rfl) ?_
            refine lv_aload_n hx hb dX0_tellCrosses_27 rfl (lv_at hl 1 rfl) ?_
            obtain ⟨y8, hc9, h⟩ := gx_bind h
            refine cc_vV (As := [.int x3_2, .ref (ad 19)]) (rest := []) ⟨hx, hb, hml, hown, hts⟩ (k_X0_tellCrossesOf l D cI cZ ad w2 x3_2 hc9) (cwV 2 hts (gwV mw_254 mw_256 mw_0 mw_27 mw_257) rfl rfl rfl (by decide +kernel) ⟨Nat.le_of_ble_eq_true rfl, Nat.le_of_ble_eq_true rfl⟩) hK hP hD hS hA hZ (ci := 0) (q0 := 8) rfl rfl rfl hl.1 rfl (Nat.le_of_ble_eq_true rfl) dX0_tellCrosses_28 ⟨Nat.zero_le _, Nat.zero_le _⟩ (fun H locs hP hD hS => ?_)
            exact hj31_2 y8 _ _ _ h hP hD hS (lv_sub hl [0, 1, 2, 3] rfl)
  refine hL2 _ (fun w2 H locs ls h hP hD hS hl => ?_) FU (0 : Int32) u _ _ _ h hP hD hS (lv_sub hl [1, 2, 3, 0] rfl)
  cases h
  exact cc_vret hx hb hr hQ hK hP hD hS dX0_tellCrosses_37 hlocks

def rX3_isAheadOfCross_t : Room := { frames := 1, cells := 0, slots := 0, locals := 22 }
set_option maxHeartbeats 4000000 in
set_option maxRecDepth 100000 in
theorem k_X3_isAheadOfCross_t (l : Launch) (D : va_G) (cI cZ : ClassId) (ad : Nat → Nat) (u : GS) (p0 : Int32) {r : Int32} (h : g_X3_isAheadOfCross_t u p0 = some r) : MI l yX3_isAheadOfCross (wm yX3_isAheadOfCross cX3_isAheadOfCross 3 (some .boolean)) rX3_isAheadOfCross_t D [(cI, .int), (cZ, .boolean)] (wC cI cZ ad u) (wC cI cZ ad u) [.int p0, .ref (ad 19)] r := by
  intro sz
  refine Met.ofW (cc := cX3_isAheadOfCross) (maxL := 3) (ret := (some .boolean)) (by decide) rfl ?_
  intro p e s m args below meth c s₁ B hml hv
  obtain ⟨rfl, hsz, hP, hK, hD0, hZ⟩ := hv
  have hx := B.exec
  have hb := B.bytes
  have hr := B.returns
  have hts : ∀ w ∈ Wall, w.before _ s = true := fun w hw => atoms_spec (ws := wm yX3_isAheadOfCross cX3_isAheadOfCross 3 (some .boolean)) B.pre w (List.mem_cons_of_mem _ hw)
  have hown : s.vm.findClass RX3 = some m.cls := findClass_of_methodNamed B.named
  have hlocks := B.notSynchronized
  subst hsz
  have hD := hD0.self (sz := s.heap.size)
  generalize hAe : va_A (wC cI cZ ad u) s.heap.size = A at hD hZ ⊢
  have hA : ∀ q : Nat, s.heap.size ≤ q → A q := fun q h => by rw [← hAe]; exact Or.inr h
  have hS : va_S A s.heap s.heap [] := va_S.rf
  have hl := lv_entry ([.int p0, .ref (ad 19)]) (n := 3) (Nat.le_of_ble_eq_true rfl)
  rw [lg_entry_eq]
  generalize (lg_sl ([.int p0, .ref (ad 19)]) ++ List.replicate (3 - (lg_sl ([.int p0, .ref (ad 19)])).length) Slot.unset).toArray = ls at hl ⊢
  replace hl : lv_has ls 3 [(0, .int p0), (1, .ref (ad 19))] := hl
  refine w_gen (fun Q hQ => ?_)
  refine lv_iload_n hx hb dX3_isAheadOfCross_0 rfl (lv_at hl 0 rfl) ?_
  refine lv_iconst (v := 4) hx hb dX3_isAheadOfCross_1 (by decide) ?_
  refine lv_iadd hx hb dX3_isAheadOfCross_2 ?_
  obtain ⟨v1, ev1, h⟩ := gx_let h
  refine lv_topn ev1 ?_
  refine lv_istore_n (lv' := [(2, .int v1), (0, .int p0), (1, .ref (ad 19))]) hx hb dX3_isAheadOfCross_3 rfl hl (by decide) rfl (fun ls hl => ?_)
  refine lv_iload_n hx hb dX3_isAheadOfCross_4 rfl (lv_at hl 0 rfl) ?_
  refine lv_iconst (v := 0) hx hb dX3_isAheadOfCross_5 (by decide) ?_
  refine lv_bipush (v := 47) hx hb dX3_isAheadOfCross_6 (by decide) ?_
  obtain ⟨y2, hc3, h⟩ := gx_bind h
  refine cc_iSN (As := [.int v1, .int (0 : Int32), .int (47 : Int32)]) (rest := []) ⟨hx, hb, hml, hown, hts⟩ (k_X9_isWithin l D cI cZ ad u v1 (0 : Int32) (47 : Int32) hc3) ⟨va_cnB 3 hts (gwM mw_244) rfl rfl rfl (hZ.1 ("RedcrossGantry$LaneSigns", 39, yX9_isWithin) (by decide +kernel)) (hts _ mw_19) (by decide +kernel) ⟨Nat.le_of_ble_eq_true rfl, Nat.le_of_ble_eq_true rfl⟩, hts _ mw_243, trivial⟩ hK hP hD hS hA hZ rfl hl.1 rfl (Nat.le_of_ble_eq_true rfl) dX3_isAheadOfCross_8 ⟨Nat.zero_le _, Nat.zero_le _⟩ (fun H locs hP hD hS => ?_)
  refine lv_if_eq (tgt := 25) hx hb dX3_isAheadOfCross_11 (by decide) (fun c4 => ?_) (fun c4 => ?_)
  · replace h := gx_t c4 h
    refine lv_iconst (v := 0) hx hb dX3_isAheadOfCross_25 (by decide) ?_
    cases h
    exact cc_ret hx hb hr rfl hQ hK hP hD hS rfl dX3_isAheadOfCross_26 hlocks
  · replace h := gx_f c4 h
    refine lv_aload_n hx hb dX3_isAheadOfCross_14 rfl (lv_at hl 2 rfl) ?_
    refine lv_iload_n hx hb dX3_isAheadOfCross_15 rfl (lv_at hl 0 rfl) ?_
    obtain ⟨b5, h⟩ := gx_in h
    refine va_iald (D := D) hx hb hK hP 19 0 rfl rfl b5 dX3_isAheadOfCross_16 ?_
    refine lv_iconst (v := 2) hx hb dX3_isAheadOfCross_17 (by decide) ?_
    refine lv_icmp_ne (tgt := 25) hx hb dX3_isAheadOfCross_18 (by decide) (fun c6 => ?_) (fun c6 => ?_)
    · replace h := gx_f c6 h
      refine lv_iconst (v := 0) hx hb dX3_isAheadOfCross_25 (by decide) ?_
      cases h
      exact cc_ret hx hb hr rfl hQ hK hP hD hS rfl dX3_isAheadOfCross_26 hlocks
    · replace h := gx_t c6 h
      refine lv_iconst (v := 1) hx hb dX3_isAheadOfCross_21 (by decide) ?_
      refine lv_goto (tgt := 26) hx hb dX3_isAheadOfCross_22 (by decide) ?_
      cases h
      exact cc_ret hx hb hr rfl hQ hK hP hD hS rfl dX3_isAheadOfCross_26 hlocks

def rX3_setAnew : Room := { frames := 3, cells := 0, slots := 0, locals := 69 }
set_option maxHeartbeats 4000000 in
set_option maxRecDepth 100000 in
theorem k_X3_setAnew (l : Launch) (D : va_G) (cI cZ : ClassId) (ad : Nat → Nat) (u : GS) (p0 : Int32) {w' : GS} (h : g_X3_setAnew u p0 = some w') : MV l yX3_setAnew (wm yX3_setAnew cX3_setAnew 6 none) rX3_setAnew D [(cI, .int), (cZ, .boolean)] (wC cI cZ ad u) (wC cI cZ ad w') [.ref (ad 4), .int p0, .ref (ad 5), .ref (ad 6), .ref (ad 8)] := by
  intro sz
  refine Met.ofW (cc := cX3_setAnew) (maxL := 6) (ret := none) (by decide) rfl ?_
  intro p e s m args below meth c s₁ B hml hv
  obtain ⟨rfl, hsz, hP, hK, hD0, hZ⟩ := hv
  have hx := B.exec
  have hb := B.bytes
  have hr := B.returns
  have hts : ∀ w ∈ Wall, w.before _ s = true := fun w hw => atoms_spec (ws := wm yX3_setAnew cX3_setAnew 6 none) B.pre w (List.mem_cons_of_mem _ hw)
  have hown : s.vm.findClass RX3 = some m.cls := findClass_of_methodNamed B.named
  have hlocks := B.notSynchronized
  subst hsz
  have hD := hD0.self (sz := s.heap.size)
  generalize hAe : va_A (wC cI cZ ad u) s.heap.size = A at hD hZ ⊢
  have hA : ∀ q : Nat, s.heap.size ≤ q → A q := fun q h => by rw [← hAe]; exact Or.inr h
  have hS : va_S A s.heap s.heap [] := va_S.rf
  have hf15 := hts _ mw_126
  have hf9 := hts _ mw_124
  have hf18 := hts _ mw_127
  have hl := lv_entry ([.ref (ad 4), .int p0, .ref (ad 5), .ref (ad 6), .ref (ad 8)]) (n := 6) (Nat.le_of_ble_eq_true rfl)
  rw [lg_entry_eq]
  generalize (lg_sl ([.ref (ad 4), .int p0, .ref (ad 5), .ref (ad 6), .ref (ad 8)]) ++ List.replicate (6 - (lg_sl ([.ref (ad 4), .int p0, .ref (ad 5), .ref (ad 6), .ref (ad 8)])).length) Slot.unset).toArray = ls at hl ⊢
  replace hl : lv_has ls 6 [(0, .ref (ad 4)), (1, .int p0), (2, .ref (ad 5)), (3, .ref (ad 6)), (4, .ref (ad 8))] := hl
  refine w_gen (fun Q hQ => ?_)
  refine lv_iconst (v := 0) hx hb dX3_setAnew_0 (by decide) ?_
  refine lv_istore (lv' := [(5, .int (0 : Int32)), (0, .ref (ad 4)), (1, .int p0), (2, .ref (ad 5)), (3, .ref (ad 6)), (4, .ref (ad 8))]) hx hb dX3_setAnew_1 hl (by decide) rfl (fun ls hl => ?_)
  have hL3 : ∀ (k : GS → Option (GS)) (hk : ∀ (w3 : GS) (H : Heap) (locs : List Loc) (ls : Array Slot), k w3 = some w' → va_P D vwCl (wC cI cZ ad w3) H → va_D A (wC cI cZ ad w3) → va_S A s.heap H locs → lv_has ls 6 [(0, .ref (ad 4)), (1, .int p0), (2, .ref (ad 5)), (3, .ref (ad 6)), (4, .ref (ad 8))] → W p l e rX3_setAnew s m ([.ref (ad 4), .int p0, .ref (ad 5), .ref (ad 6), .ref (ad 8)] : List Value).toArray below meth c H locs 0 0 Q (F0 m 24 ls [])) (n : Nat) (x5_3 : Int32) (w3 : GS) (H : Heap) (locs : List Loc) (ls : Array Slot), lp_X3_setAnew_3 k n x5_3 w3 = some w' → va_P D vwCl (wC cI cZ ad w3) H → va_D A (wC cI cZ ad w3) → va_S A s.heap H locs → lv_has ls 6 [(0, .ref (ad 4)), (1, .int p0), (2, .ref (ad 5)), (3, .ref (ad 6)), (4, .ref (ad 8)), (5, .int x5_3)] → W p l e rX3_setAnew s m ([.ref (ad 4), .int p0, .ref (ad 5), .ref (ad 6), .ref (ad 8)] : List Value).toArray below meth c H locs 0 0 Q (F0 m 3 ls []) := by
    intro k hk n
    induction n with
    | zero =>
      intro x5_3 w3 H locs ls h
      rw [lp_X3_setAnew_3] at h
      cases h
    | succ n ih =>
      intro x5_3 w3 H locs ls h hP hD hS hl
      rw [lp_X3_setAnew_3] at h
      refine lv_iload hx hb dX3_setAnew_3 (lv_at hl 5 rfl) ?_
      refine lv_bipush (v := 48) hx hb dX3_setAnew_5 (by decide) ?_
      refine lv_icmp_ge (tgt := 24) hx hb dX3_setAnew_7 (by decide) (fun c1 => ?_) (fun c1 => ?_)
      · replace h := gx_t c1 h
        exact hk w3 _ _ _ h hP hD hS (lv_sub hl [0, 1, 2, 3, 4] rfl)
      · replace h := gx_f c1 h
        refine lv_aload_n hx hb dX3_setAnew_10 rfl (lv_at hl 0 rfl) ?_
        refine va_get (D := D) (ci := 3) (v := .ref (ad 19)) (C := RX3) (T := TX3) (N := 3) hx hb hts iX3 hown hK hP 4 rfl rfl 1 (by decide) hf15 (fun _ h9 => h9) rfl dX3_setAnew_11 ?_
        refine lv_iload hx hb dX3_setAnew_14 (lv_at hl 5 rfl) ?_
        refine lv_iconst (v := 0) hx hb dX3_setAnew_16 (by decide) ?_
        obtain ⟨b2, h⟩ := gx_in h
        refine va_iast (D := D) hx hb hK hP hD hS 19 0 rfl rfl b2 dX3_setAnew_17 (fun H locs hP hD hS => ?_)
        obtain ⟨u3, eu3, h⟩ := gx_let h
        replace hP : va_P D vwCl (wC cI cZ ad u3) H := by rw [← eu3]; exact hP
        replace hD : va_D A (wC cI cZ ad u3) := by rw [← eu3]; exact hD
        obtain ⟨v4, ev4, h⟩ := gx_let h
        refine lv_iinc (v := v4) (lv' := [(5, .int v4), (0, .ref (ad 4)), (1, .int p0), (2, .ref (ad 5)), (3, .ref (ad 6)), (4, .ref (ad 8))]) hx hb dX3_setAnew_18 hl (k := 5) rfl (by rw [← ev4]; rfl) (by decide) rfl (fun ls hl => ?_)
        refine lv_goto (tgt := 3) hx hb dX3_setAnew_21 (by decide) ?_
        exact ih v4 u3 _ _ _ h hP hD hS (lv_sub hl [1, 2, 3, 4, 5, 0] rfl)
  refine hL3 _ (fun w3 H locs ls h hP hD hS hl => ?_) FU (0 : Int32) u _ _ _ h hP hD hS (lv_sub hl [1, 2, 3, 4, 5, 0] rfl)
  refine lv_aload_n hx hb dX3_setAnew_24 rfl (lv_at hl 2 rfl) ?_
  refine lv_aload_n hx hb dX3_setAnew_25 rfl (lv_at hl 0 rfl) ?_
  refine va_get (D := D) (ci := 3) (v := .ref (ad 19)) (C := RX3) (T := TX3) (N := 3) hx hb hts iX3 hown hK hP 4 rfl rfl 1 (by decide) hf15 (fun _ h9 => h9) rfl dX3_setAnew_26 ?_
  obtain ⟨y5, hc6, h⟩ := gx_bind h
  refine cc_vV (As := [.ref (ad 19)]) (rest := []) ⟨hx, hb, hml, hown, hts⟩ (k_X6_tellCrosses l D cI cZ ad w3 hc6) (cwV 1 hts (gwV mw_231 mw_232 mw_233 mw_24 mw_234) rfl rfl rfl (by decide +kernel) ⟨Nat.le_of_ble_eq_true rfl, Nat.le_of_ble_eq_true rfl⟩) hK hP hD hS hA hZ (ci := 6) (q0 := 5) rfl rfl rfl hl.1 rfl (Nat.le_of_ble_eq_true rfl) dX3_setAnew_29 ⟨Nat.zero_le _, Nat.zero_le _⟩ (fun H locs hP hD hS => ?_)
  refine lv_aload_n hx hb dX3_setAnew_32 rfl (lv_at hl 3 rfl) ?_
  refine lv_aload_n hx hb dX3_setAnew_33 rfl (lv_at hl 0 rfl) ?_
  refine va_get (D := D) (ci := 3) (v := .ref (ad 19)) (C := RX3) (T := TX3) (N := 3) hx hb hts iX3 hown hK hP 4 rfl rfl 1 (by decide) hf15 (fun _ h9 => h9) rfl dX3_setAnew_34 ?_
  obtain ⟨y7, hc8, h⟩ := gx_bind h
  refine cc_vV (As := [.ref (ad 19)]) (rest := []) ⟨hx, hb, hml, hown, hts⟩ (k_X2_tellCrosses l D cI cZ ad y5 hc8) (cwV 1 hts (gwV mw_238 mw_239 mw_240 mw_25 mw_241) rfl rfl rfl (by decide +kernel) ⟨Nat.le_of_ble_eq_true rfl, Nat.le_of_ble_eq_true rfl⟩) hK hP hD hS hA hZ (ci := 2) (q0 := 6) rfl rfl rfl hl.1 rfl (Nat.le_of_ble_eq_true rfl) dX3_setAnew_37 ⟨Nat.zero_le _, Nat.zero_le _⟩ (fun H locs hP hD hS => ?_)
  refine lv_aload hx hb dX3_setAnew_40 (lv_at hl 4 rfl) ?_
  refine lv_aload_n hx hb dX3_setAnew_42 rfl (lv_at hl 0 rfl) ?_
  refine va_get (D := D) (ci := 3) (v := .ref (ad 19)) (C := RX3) (T := TX3) (N := 3) hx hb hts iX3 hown hK hP 4 rfl rfl 1 (by decide) hf15 (fun _ h9 => h9) rfl dX3_setAnew_43 ?_
  refine lv_iload_n hx hb dX3_setAnew_46 rfl (lv_at hl 1 rfl) ?_
  obtain ⟨y9, hc10, h⟩ := gx_bind h
  refine cc_vV (As := [.ref (ad 19), .int p0]) (rest := []) ⟨hx, hb, hml, hown, hts⟩ (k_X0_tellCrosses l D cI cZ ad y7 p0 hc10) (cwV 2 hts (gwV mw_245 mw_246 mw_247 mw_27 mw_248) rfl rfl rfl (by decide +kernel) ⟨Nat.le_of_ble_eq_true rfl, Nat.le_of_ble_eq_true rfl⟩) hK hP hD hS hA hZ (ci := 0) (q0 := 8) rfl rfl rfl hl.1 rfl (Nat.le_of_ble_eq_true rfl) dX3_setAnew_47 ⟨Nat.zero_le _, Nat.zero_le _⟩ (fun H locs hP hD hS => ?_)
  refine lv_iconst (v := 0) hx hb dX3_setAnew_50 (by decide) ?_
  refine lv_istore (lv' := [(5, .int (0 : Int32)), (0, .ref (ad 4)), (1, .int p0), (2, .ref (ad 5)), (3, .ref (ad 6)), (4, .ref (ad 8))]) hx hb dX3_setAnew_51 hl (by decide) rfl (fun ls hl => ?_)
  have hL53 : ∀ (k : GS → Option (GS)) (hk : ∀ (w53 : GS) (H : Heap) (locs : List Loc) (ls : Array Slot), k w53 = some w' → va_P D vwCl (wC cI cZ ad w53) H → va_D A (wC cI cZ ad w53) → va_S A s.heap H locs → lv_has ls 6 [(0, .ref (ad 4))] → W p l e rX3_setAnew s m ([.ref (ad 4), .int p0, .ref (ad 5), .ref (ad 6), .ref (ad 8)] : List Value).toArray below meth c H locs 0 0 Q (F0 m 91 ls [])) (n : Nat) (x5_53 : Int32) (w53 : GS) (H : Heap) (locs : List Loc) (ls : Array Slot), lp_X3_setAnew_53 k n x5_53 w53 = some w' → va_P D vwCl (wC cI cZ ad w53) H → va_D A (wC cI cZ ad w53) → va_S A s.heap H locs → lv_has ls 6 [(0, .ref (ad 4)), (5, .int x5_53)] → W p l e rX3_setAnew s m ([.ref (ad 4), .int p0, .ref (ad 5), .ref (ad 6), .ref (ad 8)] : List Value).toArray below meth c H locs 0 0 Q (F0 m 53 ls []) := by
    intro k hk n
    induction n with
    | zero =>
      intro x5_53 w53 H locs ls h
      rw [lp_X3_setAnew_53] at h
      cases h
    | succ n ih =>
      intro x5_53 w53 H locs ls h hP hD hS hl
      rw [lp_X3_setAnew_53] at h
      refine lv_iload hx hb dX3_setAnew_53 (lv_at hl 1 rfl) ?_
      refine lv_bipush (v := 48) hx hb dX3_setAnew_55 (by decide) ?_
      refine lv_icmp_ge (tgt := 91) hx hb dX3_setAnew_57 (by decide) (fun c11 => ?_) (fun c11 => ?_)
      · replace h := gx_t c11 h
        exact hk w53 _ _ _ h hP hD hS (lv_sub hl [0] rfl)
      · replace h := gx_f c11 h
        refine lv_aload_n hx hb dX3_setAnew_60 rfl (lv_at hl 0 rfl) ?_
        refine va_get (D := D) (ci := 3) (v := .ref (ad 18)) (C := RX3) (T := TX3) (N := 3) hx hb hts iX3 hown hK hP 4 rfl rfl 0 (by decide) hf9 (fun _ h9 => h9) rfl dX3_setAnew_61 ?_
        refine lv_iload hx hb dX3_setAnew_64 (lv_at hl 1 rfl) ?_
        obtain ⟨b12, h⟩ := gx_in h
        refine va_iald (D := D) hx hb hK hP 18 0 rfl rfl b12 dX3_setAnew_66 ?_
        refine lv_iconst (v := (-1)) hx hb dX3_setAnew_67 (by decide) ?_
        obtain ⟨j85_13, ej85_13, h⟩ := gx_let h
        have hj85_13 : ∀ (w85 : GS) (H : Heap) (locs : List Loc) (ls : Array Slot), j85_13 w85 = some w' → va_P D vwCl (wC cI cZ ad w85) H → va_D A (wC cI cZ ad w85) → va_S A s.heap H locs → lv_has ls 6 [(0, .ref (ad 4)), (5, .int x5_53)] → W p l e rX3_setAnew s m ([.ref (ad 4), .int p0, .ref (ad 5), .ref (ad 6), .ref (ad 8)] : List Value).toArray below meth c H locs 0 0 Q (F0 m 85 ls []) := by
          intro w85 H locs ls h hP hD hS hl
          subst ej85_13
          obtain ⟨v14, ev14, h⟩ := gx_let h
          refine lv_iinc (v := v14) (lv' := [(5, .int v14), (0, .ref (ad 4))]) hx hb dX3_setAnew_85 hl (k := 1) rfl (by rw [← ev14]; rfl) (by decide) rfl (fun ls hl => ?_)
          refine lv_goto (tgt := 53) hx hb dX3_setAnew_88 (by decide) ?_
          exact ih v14 w85 _ _ _ h hP hD hS (lv_sub hl [1, 0] rfl)
        refine lv_icmp_eq (tgt := 85) hx hb dX3_setAnew_68 (by decide) (fun c15 => ?_) (fun c15 => ?_)
        · replace h := gx_t c15 h
          exact hj85_13 w53 _ _ _ h hP hD hS (lv_sub hl [0, 1] rfl)
        · replace h := gx_f c15 h
          refine lv_aload_n hx hb dX3_setAnew_71 rfl (lv_at hl 0 rfl) ?_
          refine va_get (D := D) (ci := 3) (v := .ref (ad 19)) (C := RX3) (T := TX3) (N := 3) hx hb hts iX3 hown hK hP 4 rfl rfl 1 (by decide) hf15 (fun _ h9 => h9) rfl dX3_setAnew_72 ?_
          refine lv_iload hx hb dX3_setAnew_75 (lv_at hl 1 rfl) ?_
          refine lv_aload_n hx hb dX3_setAnew_77 rfl (lv_at hl 0 rfl) ?_
          refine va_get (D := D) (ci := 3) (v := .ref (ad 18)) (C := RX3) (T := TX3) (N := 3) hx hb hts iX3 hown hK hP 4 rfl rfl 0 (by decide) hf9 (fun _ h9 => h9) rfl dX3_setAnew_78 ?_
          refine lv_iload hx hb dX3_setAnew_81 (lv_at hl 1 rfl) ?_
          obtain ⟨b16, h⟩ := gx_in h
          refine va_iald (D := D) hx hb hK hP 18 0 rfl rfl b16 dX3_setAnew_83 ?_
          obtain ⟨b17, h⟩ := gx_in h
          refine va_iast (D := D) hx hb hK hP hD hS 19 0 rfl rfl b17 dX3_setAnew_84 (fun H locs hP hD hS => ?_)
          obtain ⟨u18, eu18, h⟩ := gx_let h
          replace hP : va_P D vwCl (wC cI cZ ad u18) H := by rw [← eu18]; exact hP
          replace hD : va_D A (wC cI cZ ad u18) := by rw [← eu18]; exact hD
          exact hj85_13 u18 _ _ _ h hP hD hS (lv_sub hl [0, 1] rfl)
  refine hL53 _ (fun w53 H locs ls h hP hD hS hl => ?_) FU (0 : Int32) y9 _ _ _ h hP hD hS (lv_sub hl [1, 0] rfl)
  refine lv_iconst (v := 0) hx hb dX3_setAnew_91 (by decide) ?_
  refine lv_istore (lv' := [(5, .int (0 : Int32)), (0, .ref (ad 4))]) hx hb dX3_setAnew_92 hl (by decide) rfl (fun ls hl => ?_)
  have hL94 : ∀ (k : GS → Option (GS)) (hk : ∀ (w94 : GS) (H : Heap) (locs : List Loc) (ls : Array Slot), k w94 = some w' → va_P D vwCl (wC cI cZ ad w94) H → va_D A (wC cI cZ ad w94) → va_S A s.heap H locs → lv_has ls 6 [] → W p l e rX3_setAnew s m ([.ref (ad 4), .int p0, .ref (ad 5), .ref (ad 6), .ref (ad 8)] : List Value).toArray below meth c H locs 0 0 Q (F0 m 147 ls [])) (n : Nat) (x5_94 : Int32) (w94 : GS) (H : Heap) (locs : List Loc) (ls : Array Slot), lp_X3_setAnew_94 k n x5_94 w94 = some w' → va_P D vwCl (wC cI cZ ad w94) H → va_D A (wC cI cZ ad w94) → va_S A s.heap H locs → lv_has ls 6 [(0, .ref (ad 4)), (5, .int x5_94)] → W p l e rX3_setAnew s m ([.ref (ad 4), .int p0, .ref (ad 5), .ref (ad 6), .ref (ad 8)] : List Value).toArray below meth c H locs 0 0 Q (F0 m 94 ls []) := by
    intro k hk n
    induction n with
    | zero =>
      intro x5_94 w94 H locs ls h
      rw [lp_X3_setAnew_94] at h
      cases h
    | succ n ih =>
      intro x5_94 w94 H locs ls h hP hD hS hl
      rw [lp_X3_setAnew_94] at h
      refine lv_iload hx hb dX3_setAnew_94 (lv_at hl 1 rfl) ?_
      refine lv_bipush (v := 48) hx hb dX3_setAnew_96 (by decide) ?_
      refine lv_icmp_ge (tgt := 147) hx hb dX3_setAnew_98 (by decide) (fun c19 => ?_) (fun c19 => ?_)
      · replace h := gx_t c19 h
        exact hk w94 _ _ _ h hP hD hS (lv_sub hl [] rfl)
      · replace h := gx_f c19 h
        refine lv_aload_n hx hb dX3_setAnew_101 rfl (lv_at hl 0 rfl) ?_
        refine va_get (D := D) (ci := 3) (v := .ref (ad 20)) (C := RX3) (T := TX3) (N := 3) hx hb hts iX3 hown hK hP 4 rfl rfl 2 (by decide) hf18 (fun _ h9 => h9) rfl dX3_setAnew_102 ?_
        refine lv_iload hx hb dX3_setAnew_105 (lv_at hl 1 rfl) ?_
        refine lv_aload_n hx hb dX3_setAnew_107 rfl (lv_at hl 0 rfl) ?_
        refine va_get (D := D) (ci := 3) (v := .ref (ad 19)) (C := RX3) (T := TX3) (N := 3) hx hb hts iX3 hown hK hP 4 rfl rfl 1 (by decide) hf15 (fun _ h9 => h9) rfl dX3_setAnew_108 ?_
        refine lv_iload hx hb dX3_setAnew_111 (lv_at hl 1 rfl) ?_
        obtain ⟨b20, h⟩ := gx_in h
        refine va_iald (D := D) hx hb hK hP 19 0 rfl rfl b20 dX3_setAnew_113 ?_
        obtain ⟨j140_21, ej140_21, h⟩ := gx_let h
        have hj140_21 : ∀ (z0_140 : Int32) (H : Heap) (locs : List Loc) (ls : Array Slot), j140_21 z0_140 = some w' → va_P D vwCl (wC cI cZ ad w94) H → va_D A (wC cI cZ ad w94) → va_S A s.heap H locs → lv_has ls 6 [(0, .ref (ad 4)), (5, .int x5_94)] → W p l e rX3_setAnew s m ([.ref (ad 4), .int p0, .ref (ad 5), .ref (ad 6), .ref (ad 8)] : List Value).toArray below meth c H locs 0 0 Q (F0 m 140 ls [.int z0_140, .int x5_94, .ref (ad 20)]) := by
          intro z0_140 H locs ls h hP hD hS hl
          subst ej140_21
          obtain ⟨b22, h⟩ := gx_in h
          refine va_iast (D := D) hx hb hK hP hD hS 20 0 rfl rfl b22 dX3_setAnew_140 (fun H locs hP hD hS => ?_)
          obtain ⟨u23, eu23, h⟩ := gx_let h
          replace hP : va_P D vwCl (wC cI cZ ad u23) H := by rw [← eu23]; exact hP
          replace hD : va_D A (wC cI cZ ad u23) := by rw [← eu23]; exact hD
          obtain ⟨v24, ev24, h⟩ := gx_let h
          refine lv_iinc (v := v24) (lv' := [(5, .int v24), (0, .ref (ad 4))]) hx hb dX3_setAnew_141 hl (k := 1) rfl (by rw [← ev24]; rfl) (by decide) rfl (fun ls hl => ?_)
          refine lv_goto (tgt := 94) hx hb dX3_setAnew_144 (by decide) ?_
          exact ih v24 u23 _ _ _ h hP hD hS (lv_sub hl [1, 0] rfl)
        obtain ⟨j133_25, ej133_25, h⟩ := gx_let h
        have hj133_25 : ∀ (H : Heap) (locs : List Loc) (ls : Array Slot), j133_25 () = some w' → va_P D vwCl (wC cI cZ ad w94) H → va_D A (wC cI cZ ad w94) → va_S A s.heap H locs → lv_has ls 6 [(0, .ref (ad 4)), (5, .int x5_94)] → W p l e rX3_setAnew s m ([.ref (ad 4), .int p0, .ref (ad 5), .ref (ad 6), .ref (ad 8)] : List Value).toArray below meth c H locs 0 0 Q (F0 m 133 ls [.int x5_94, .ref (ad 20)]) := by
          intro  H locs ls h hP hD hS hl
          subst ej133_25
          refine lv_aload_n hx hb dX3_setAnew_133 rfl (lv_at hl 0 rfl) ?_
          refine va_get (D := D) (ci := 3) (v := .ref (ad 19)) (C := RX3) (T := TX3) (N := 3) hx hb hts iX3 hown hK hP 4 rfl rfl 1 (by decide) hf15 (fun _ h9 => h9) rfl dX3_setAnew_134 ?_
          refine lv_iload hx hb dX3_setAnew_137 (lv_at hl 1 rfl) ?_
          obtain ⟨b26, h⟩ := gx_in h
          refine va_iald (D := D) hx hb hK hP 19 0 rfl rfl b26 dX3_setAnew_139 ?_
          exact hj140_21 (cL_told w94 x5_94.toNatClampNeg) _ _ _ h hP hD hS (lv_sub hl [0, 1] rfl)
        refine lv_if_ne (tgt := 133) hx hb dX3_setAnew_114 (by decide) (fun c27 => ?_) (fun c27 => ?_)
        · replace h := gx_f c27 h
          exact hj133_25 _ _ _ h hP hD hS (lv_sub hl [0, 1] rfl)
        · replace h := gx_t c27 h
          refine lv_iload hx hb dX3_setAnew_117 (lv_at hl 1 rfl) ?_
          refine lv_aload_n hx hb dX3_setAnew_119 rfl (lv_at hl 0 rfl) ?_
          refine va_get (D := D) (ci := 3) (v := .ref (ad 19)) (C := RX3) (T := TX3) (N := 3) hx hb hts iX3 hown hK hP 4 rfl rfl 1 (by decide) hf15 (fun _ h9 => h9) rfl dX3_setAnew_120 ?_
          obtain ⟨y28, hc29, h⟩ := gx_bind h
          refine cc_iS (As := [.int x5_94, .ref (ad 19)]) (rest := [.int x5_94, .ref (ad 20)]) ⟨hx, hb, hml, hown, hts⟩ (k_X3_isAheadOfCross_t l D cI cZ ad w94 x5_94 hc29) (va_cwS 2 hts (gwS mw_259 mw_260 mw_23 mw_261) rfl rfl rfl (by decide +kernel) ⟨Nat.le_of_ble_eq_true rfl, Nat.le_of_ble_eq_true rfl⟩) hK hP hD hS hA hZ rfl hl.1 rfl (Nat.le_of_ble_eq_true rfl) dX3_setAnew_123 ⟨Nat.zero_le _, Nat.zero_le _⟩ (fun H locs hP hD hS => ?_)
          refine lv_if_eq (tgt := 133) hx hb dX3_setAnew_126 (by decide) (fun c30 => ?_) (fun c30 => ?_)
          · replace h := gx_t c30 h
            exact hj133_25 _ _ _ h hP hD hS (lv_sub hl [0, 1] rfl)
          · replace h := gx_f c30 h
            refine lv_iconst (v := 1) hx hb dX3_setAnew_129 (by decide) ?_
            refine lv_goto (tgt := 140) hx hb dX3_setAnew_130 (by decide) ?_
            exact hj140_21 (1 : Int32) _ _ _ h hP hD hS (lv_sub hl [0, 1] rfl)
  refine hL94 _ (fun w94 H locs ls h hP hD hS hl => ?_) FU (0 : Int32) w53 _ _ _ h hP hD hS (lv_sub hl [1, 0] rfl)
  cases h
  exact cc_vret hx hb hr hQ hK hP hD hS dX3_setAnew_147 hlocks

def rX9_setLaneSigns : Room := { frames := 4, cells := 0, slots := 0, locals := 94 }
set_option maxHeartbeats 4000000 in
set_option maxRecDepth 100000 in
theorem k_X9_setLaneSigns (l : Launch) (D : va_G) (cI cZ : ClassId) (ad : Nat → Nat) (u : GS) {w' : GS} (h : g_X9_setLaneSigns u = some w') : MV l yX9_setLaneSigns (wm yX9_setLaneSigns cX9_setLaneSigns 1 none) rX9_setLaneSigns D [(cI, .int), (cZ, .boolean)] (wC cI cZ ad u) (wC cI cZ ad w') [.ref (ad 0)] := by
  intro sz
  refine Met.ofW (cc := cX9_setLaneSigns) (maxL := 1) (ret := none) (by decide) rfl ?_
  intro p e s m args below meth c s₁ B hml hv
  obtain ⟨rfl, hsz, hP, hK, hD0, hZ⟩ := hv
  have hx := B.exec
  have hb := B.bytes
  have hr := B.returns
  have hts : ∀ w ∈ Wall, w.before _ s = true := fun w hw => atoms_spec (ws := wm yX9_setLaneSigns cX9_setLaneSigns 1 none) B.pre w (List.mem_cons_of_mem _ hw)
  have hown : s.vm.findClass RX9 = some m.cls := findClass_of_methodNamed B.named
  have hlocks := B.notSynchronized
  subst hsz
  have hD := hD0.self (sz := s.heap.size)
  generalize hAe : va_A (wC cI cZ ad u) s.heap.size = A at hD hZ ⊢
  have hA : ∀ q : Nat, s.heap.size ≤ q → A q := fun q h => by rw [← hAe]; exact Or.inr h
  have hS : va_S A s.heap s.heap [] := va_S.rf
  have hf37 := hts _ mw_278
  have hf7 := hts _ mw_274
  have hf44 := hts _ mw_279
  have hf51 := hts _ mw_280
  have hf65 := hts _ mw_282
  have hl := lv_entry ([.ref (ad 0)]) (n := 1) (Nat.le_of_ble_eq_true rfl)
  rw [lg_entry_eq]
  generalize (lg_sl ([.ref (ad 0)]) ++ List.replicate (1 - (lg_sl ([.ref (ad 0)])).length) Slot.unset).toArray = ls at hl ⊢
  replace hl : lv_has ls 1 [(0, .ref (ad 0))] := hl
  refine w_gen (fun Q hQ => ?_)
  refine lv_aload_n hx hb dX9_setLaneSigns_0 rfl (lv_at hl 0 rfl) ?_
  refine va_get (D := D) (ci := 9) (v := .ref (ad 4)) (C := RX9) (T := TX9) (N := 10) hx hb hts iX9 hown hK hP 0 rfl rfl 4 (by decide) hf37 (fun _ h9 => h9) rfl dX9_setLaneSigns_1 ?_
  refine lv_aload_n hx hb dX9_setLaneSigns_4 rfl (lv_at hl 0 rfl) ?_
  refine va_get (D := D) (ci := 9) (v := .int (c_minute u)) (C := RX9) (T := TX9) (N := 10) hx hb hts iX9 hown hK hP 0 rfl rfl 0 (by decide) hf7 (fun _ h9 => h9) rfl dX9_setLaneSigns_5 ?_
  refine lv_aload_n hx hb dX9_setLaneSigns_8 rfl (lv_at hl 0 rfl) ?_
  refine va_get (D := D) (ci := 9) (v := .ref (ad 5)) (C := RX9) (T := TX9) (N := 10) hx hb hts iX9 hown hK hP 0 rfl rfl 5 (by decide) hf44 (fun _ h9 => h9) rfl dX9_setLaneSigns_9 ?_
  refine lv_aload_n hx hb dX9_setLaneSigns_12 rfl (lv_at hl 0 rfl) ?_
  refine va_get (D := D) (ci := 9) (v := .ref (ad 6)) (C := RX9) (T := TX9) (N := 10) hx hb hts iX9 hown hK hP 0 rfl rfl 6 (by decide) hf51 (fun _ h9 => h9) rfl dX9_setLaneSigns_13 ?_
  refine lv_aload_n hx hb dX9_setLaneSigns_16 rfl (lv_at hl 0 rfl) ?_
  refine va_get (D := D) (ci := 9) (v := .ref (ad 8)) (C := RX9) (T := TX9) (N := 10) hx hb hts iX9 hown hK hP 0 rfl rfl 8 (by decide) hf65 (fun _ h9 => h9) rfl dX9_setLaneSigns_17 ?_
  obtain ⟨y1, hc2, h⟩ := gx_bind h
  refine cc_vV (As := [.int (c_minute u), .ref (ad 5), .ref (ad 6), .ref (ad 8)]) (rest := []) ⟨hx, hb, hml, hown, hts⟩ (k_X3_setAnew l D cI cZ ad u (c_minute u) hc2) (cwV 4 hts (gwV mw_227 mw_228 mw_229 mw_23 mw_230) rfl rfl rfl (by decide +kernel) ⟨Nat.le_of_ble_eq_true rfl, Nat.le_of_ble_eq_true rfl⟩) hK hP hD hS hA hZ (ci := 3) (q0 := 4) rfl rfl rfl hl.1 rfl (Nat.le_of_ble_eq_true rfl) dX9_setLaneSigns_20 ⟨Nat.zero_le _, Nat.zero_le _⟩ (fun H locs hP hD hS => ?_)
  cases h
  exact cc_vret hx hb hr hQ hK hP hD hS dX9_setLaneSigns_23 hlocks

def rX7_areLawful : Room := { frames := 0, cells := 0, slots := 0, locals := 0 }
set_option maxHeartbeats 4000000 in
set_option maxRecDepth 100000 in
theorem k_X7_areLawful (l : Launch) (D : va_G) (cI cZ : ClassId) (ad : Nat → Nat) (u : GS) {r : Int32} (h : g_X7_areLawful u = some r) : MI l yX7_areLawful (wm yX7_areLawful cX7_areLawful 2 (some .boolean)) rX7_areLawful D [(cI, .int), (cZ, .boolean)] (wC cI cZ ad u) (wC cI cZ ad u) [.ref (ad 3)] r := by
  intro sz
  refine Met.ofW (cc := cX7_areLawful) (maxL := 2) (ret := (some .boolean)) (by decide) rfl ?_
  intro p e s m args below meth c s₁ B hml hv
  obtain ⟨rfl, hsz, hP, hK, hD0, hZ⟩ := hv
  have hx := B.exec
  have hb := B.bytes
  have hr := B.returns
  have hts : ∀ w ∈ Wall, w.before _ s = true := fun w hw => atoms_spec (ws := wm yX7_areLawful cX7_areLawful 2 (some .boolean)) B.pre w (List.mem_cons_of_mem _ hw)
  have hown : s.vm.findClass RX7 = some m.cls := findClass_of_methodNamed B.named
  have hlocks := B.notSynchronized
  subst hsz
  have hD := hD0.self (sz := s.heap.size)
  generalize hAe : va_A (wC cI cZ ad u) s.heap.size = A at hD hZ ⊢
  have hA : ∀ q : Nat, s.heap.size ≤ q → A q := fun q h => by rw [← hAe]; exact Or.inr h
  have hS : va_S A s.heap s.heap [] := va_S.rf
  have hf15 := hts _ mw_104
  have hl := lv_entry ([.ref (ad 3)]) (n := 2) (Nat.le_of_ble_eq_true rfl)
  rw [lg_entry_eq]
  generalize (lg_sl ([.ref (ad 3)]) ++ List.replicate (2 - (lg_sl ([.ref (ad 3)])).length) Slot.unset).toArray = ls at hl ⊢
  replace hl : lv_has ls 2 [(0, .ref (ad 3))] := hl
  refine w_gen (fun Q hQ => ?_)
  refine lv_iconst (v := 0) hx hb dX7_areLawful_0 (by decide) ?_
  refine lv_istore_n (lv' := [(1, .int (0 : Int32)), (0, .ref (ad 3))]) hx hb dX7_areLawful_1 rfl hl (by decide) rfl (fun ls hl => ?_)
  have hL2 : ∀ (k : Unit → Option (Int32)) (hk : ∀ (H : Heap) (locs : List Loc) (ls : Array Slot), k () = some r → va_P D vwCl (wC cI cZ ad u) H → va_D A (wC cI cZ ad u) → va_S A s.heap H locs → lv_has ls 2 [] → W p l e rX7_areLawful s m ([.ref (ad 3)] : List Value).toArray below meth c H locs 0 0 Q (F0 m 38 ls [])) (n : Nat) (x1_2 : Int32) (H : Heap) (locs : List Loc) (ls : Array Slot), lp_X7_areLawful_2 u k n x1_2 = some r → va_P D vwCl (wC cI cZ ad u) H → va_D A (wC cI cZ ad u) → va_S A s.heap H locs → lv_has ls 2 [(0, .ref (ad 3)), (1, .int x1_2)] → W p l e rX7_areLawful s m ([.ref (ad 3)] : List Value).toArray below meth c H locs 0 0 Q (F0 m 2 ls []) := by
    intro k hk n
    induction n with
    | zero =>
      intro x1_2 H locs ls h
      rw [lp_X7_areLawful_2] at h
      cases h
    | succ n ih =>
      intro x1_2 H locs ls h hP hD hS hl
      rw [lp_X7_areLawful_2] at h
      refine lv_iload_n hx hb dX7_areLawful_2 rfl (lv_at hl 1 rfl) ?_
      refine lv_iconst (v := 1) hx hb dX7_areLawful_3 (by decide) ?_
      refine lv_iadd hx hb dX7_areLawful_4 ?_
      refine lv_bipush (v := 12) hx hb dX7_areLawful_5 (by decide) ?_
      refine lv_icmp_ge (tgt := 38) hx hb dX7_areLawful_7 (by decide) (fun c1 => ?_) (fun c1 => ?_)
      · replace h := gx_t c1 h
        exact hk _ _ _ h hP hD hS (lv_sub hl [] rfl)
      · replace h := gx_f c1 h
        refine lv_aload_n hx hb dX7_areLawful_10 rfl (lv_at hl 0 rfl) ?_
        refine va_get (D := D) (ci := 7) (v := .ref (ad 16)) (C := RX7) (T := TX7) (N := 4) hx hb hts iX7 hown hK hP 3 rfl rfl 1 (by decide) hf15 (fun _ h9 => h9) rfl dX7_areLawful_11 ?_
        refine lv_iload_n hx hb dX7_areLawful_14 rfl (lv_at hl 1 rfl) ?_
        obtain ⟨b2, h⟩ := gx_in h
        refine va_iald (D := D) hx hb hK hP 16 0 rfl rfl b2 dX7_areLawful_15 ?_
        refine lv_aload_n hx hb dX7_areLawful_16 rfl (lv_at hl 0 rfl) ?_
        refine va_get (D := D) (ci := 7) (v := .ref (ad 16)) (C := RX7) (T := TX7) (N := 4) hx hb hts iX7 hown hK hP 3 rfl rfl 1 (by decide) hf15 (fun _ h9 => h9) rfl dX7_areLawful_17 ?_
        refine lv_iload_n hx hb dX7_areLawful_20 rfl (lv_at hl 1 rfl) ?_
        refine lv_iconst (v := 1) hx hb dX7_areLawful_21 (by decide) ?_
        refine lv_iadd hx hb dX7_areLawful_22 ?_
        obtain ⟨b3, h⟩ := gx_in h
        refine va_iald (D := D) hx hb hK hP 16 0 rfl rfl b3 dX7_areLawful_23 ?_
        refine lv_bipush (v := 20) hx hb dX7_areLawful_24 (by decide) ?_
        refine lv_iadd hx hb dX7_areLawful_26 ?_
        refine lv_icmp_le (tgt := 32) hx hb dX7_areLawful_27 (by decide) (fun c4 => ?_) (fun c4 => ?_)
        · replace h := gx_t c4 h
          obtain ⟨v5, ev5, h⟩ := gx_let h
          refine lv_iinc (v := v5) (lv' := [(1, .int v5), (0, .ref (ad 3))]) hx hb dX7_areLawful_32 hl (k := 1) rfl (by rw [← ev5]; rfl) (by decide) rfl (fun ls hl => ?_)
          refine lv_goto (tgt := 2) hx hb dX7_areLawful_35 (by decide) ?_
          exact ih v5 _ _ _ h hP hD hS (lv_sub hl [1, 0] rfl)
        · replace h := gx_f c4 h
          refine lv_iconst (v := 0) hx hb dX7_areLawful_30 (by decide) ?_
          cases h
          exact cc_ret hx hb hr rfl hQ hK hP hD hS rfl dX7_areLawful_31 hlocks
  refine hL2 _ (fun H locs ls h hP hD hS hl => ?_) FU (0 : Int32) _ _ _ h hP hD hS (lv_sub hl [1, 0] rfl)
  refine lv_iconst (v := 1) hx hb dX7_areLawful_38 (by decide) ?_
  cases h
  exact cc_ret hx hb hr rfl hQ hK hP hD hS rfl dX7_areLawful_39 hlocks

def rX3_isAheadOfCross_s : Room := { frames := 1, cells := 0, slots := 0, locals := 22 }
set_option maxHeartbeats 4000000 in
set_option maxRecDepth 100000 in
theorem k_X3_isAheadOfCross_s (l : Launch) (D : va_G) (cI cZ : ClassId) (ad : Nat → Nat) (u : GS) (p0 : Int32) {r : Int32} (h : g_X3_isAheadOfCross_s u p0 = some r) : MI l yX3_isAheadOfCross (wm yX3_isAheadOfCross cX3_isAheadOfCross 3 (some .boolean)) rX3_isAheadOfCross_s D [(cI, .int), (cZ, .boolean)] (wC cI cZ ad u) (wC cI cZ ad u) [.int p0, .ref (ad 20)] r := by
  intro sz
  refine Met.ofW (cc := cX3_isAheadOfCross) (maxL := 3) (ret := (some .boolean)) (by decide) rfl ?_
  intro p e s m args below meth c s₁ B hml hv
  obtain ⟨rfl, hsz, hP, hK, hD0, hZ⟩ := hv
  have hx := B.exec
  have hb := B.bytes
  have hr := B.returns
  have hts : ∀ w ∈ Wall, w.before _ s = true := fun w hw => atoms_spec (ws := wm yX3_isAheadOfCross cX3_isAheadOfCross 3 (some .boolean)) B.pre w (List.mem_cons_of_mem _ hw)
  have hown : s.vm.findClass RX3 = some m.cls := findClass_of_methodNamed B.named
  have hlocks := B.notSynchronized
  subst hsz
  have hD := hD0.self (sz := s.heap.size)
  generalize hAe : va_A (wC cI cZ ad u) s.heap.size = A at hD hZ ⊢
  have hA : ∀ q : Nat, s.heap.size ≤ q → A q := fun q h => by rw [← hAe]; exact Or.inr h
  have hS : va_S A s.heap s.heap [] := va_S.rf
  have hl := lv_entry ([.int p0, .ref (ad 20)]) (n := 3) (Nat.le_of_ble_eq_true rfl)
  rw [lg_entry_eq]
  generalize (lg_sl ([.int p0, .ref (ad 20)]) ++ List.replicate (3 - (lg_sl ([.int p0, .ref (ad 20)])).length) Slot.unset).toArray = ls at hl ⊢
  replace hl : lv_has ls 3 [(0, .int p0), (1, .ref (ad 20))] := hl
  refine w_gen (fun Q hQ => ?_)
  refine lv_iload_n hx hb dX3_isAheadOfCross_0 rfl (lv_at hl 0 rfl) ?_
  refine lv_iconst (v := 4) hx hb dX3_isAheadOfCross_1 (by decide) ?_
  refine lv_iadd hx hb dX3_isAheadOfCross_2 ?_
  obtain ⟨v1, ev1, h⟩ := gx_let h
  refine lv_topn ev1 ?_
  refine lv_istore_n (lv' := [(2, .int v1), (0, .int p0), (1, .ref (ad 20))]) hx hb dX3_isAheadOfCross_3 rfl hl (by decide) rfl (fun ls hl => ?_)
  refine lv_iload_n hx hb dX3_isAheadOfCross_4 rfl (lv_at hl 0 rfl) ?_
  refine lv_iconst (v := 0) hx hb dX3_isAheadOfCross_5 (by decide) ?_
  refine lv_bipush (v := 47) hx hb dX3_isAheadOfCross_6 (by decide) ?_
  obtain ⟨y2, hc3, h⟩ := gx_bind h
  refine cc_iSN (As := [.int v1, .int (0 : Int32), .int (47 : Int32)]) (rest := []) ⟨hx, hb, hml, hown, hts⟩ (k_X9_isWithin l D cI cZ ad u v1 (0 : Int32) (47 : Int32) hc3) ⟨va_cnB 3 hts (gwM mw_244) rfl rfl rfl (hZ.1 ("RedcrossGantry$LaneSigns", 39, yX9_isWithin) (by decide +kernel)) (hts _ mw_19) (by decide +kernel) ⟨Nat.le_of_ble_eq_true rfl, Nat.le_of_ble_eq_true rfl⟩, hts _ mw_243, trivial⟩ hK hP hD hS hA hZ rfl hl.1 rfl (Nat.le_of_ble_eq_true rfl) dX3_isAheadOfCross_8 ⟨Nat.zero_le _, Nat.zero_le _⟩ (fun H locs hP hD hS => ?_)
  refine lv_if_eq (tgt := 25) hx hb dX3_isAheadOfCross_11 (by decide) (fun c4 => ?_) (fun c4 => ?_)
  · replace h := gx_t c4 h
    refine lv_iconst (v := 0) hx hb dX3_isAheadOfCross_25 (by decide) ?_
    cases h
    exact cc_ret hx hb hr rfl hQ hK hP hD hS rfl dX3_isAheadOfCross_26 hlocks
  · replace h := gx_f c4 h
    refine lv_aload_n hx hb dX3_isAheadOfCross_14 rfl (lv_at hl 2 rfl) ?_
    refine lv_iload_n hx hb dX3_isAheadOfCross_15 rfl (lv_at hl 0 rfl) ?_
    obtain ⟨b5, h⟩ := gx_in h
    refine va_iald (D := D) hx hb hK hP 20 0 rfl rfl b5 dX3_isAheadOfCross_16 ?_
    refine lv_iconst (v := 2) hx hb dX3_isAheadOfCross_17 (by decide) ?_
    refine lv_icmp_ne (tgt := 25) hx hb dX3_isAheadOfCross_18 (by decide) (fun c6 => ?_) (fun c6 => ?_)
    · replace h := gx_f c6 h
      refine lv_iconst (v := 0) hx hb dX3_isAheadOfCross_25 (by decide) ?_
      cases h
      exact cc_ret hx hb hr rfl hQ hK hP hD hS rfl dX3_isAheadOfCross_26 hlocks
    · replace h := gx_t c6 h
      refine lv_iconst (v := 1) hx hb dX3_isAheadOfCross_21 (by decide) ?_
      refine lv_goto (tgt := 26) hx hb dX3_isAheadOfCross_22 (by decide) ?_
      cases h
      exact cc_ret hx hb hr rfl hQ hK hP hD hS rfl dX3_isAheadOfCross_26 hlocks

def rX3_areLawful : Room := { frames := 2, cells := 0, slots := 0, locals := 44 }
set_option maxHeartbeats 4000000 in
set_option maxRecDepth 100000 in
theorem k_X3_areLawful (l : Launch) (D : va_G) (cI cZ : ClassId) (ad : Nat → Nat) (u : GS) {r : Int32} (h : g_X3_areLawful u = some r) : MI l yX3_areLawful (wm yX3_areLawful cX3_areLawful 2 (some .boolean)) rX3_areLawful D [(cI, .int), (cZ, .boolean)] (wC cI cZ ad u) (wC cI cZ ad u) [.ref (ad 4)] r := by
  intro sz
  refine Met.ofW (cc := cX3_areLawful) (maxL := 2) (ret := (some .boolean)) (by decide) rfl ?_
  intro p e s m args below meth c s₁ B hml hv
  obtain ⟨rfl, hsz, hP, hK, hD0, hZ⟩ := hv
  have hx := B.exec
  have hb := B.bytes
  have hr := B.returns
  have hts : ∀ w ∈ Wall, w.before _ s = true := fun w hw => atoms_spec (ws := wm yX3_areLawful cX3_areLawful 2 (some .boolean)) B.pre w (List.mem_cons_of_mem _ hw)
  have hown : s.vm.findClass RX3 = some m.cls := findClass_of_methodNamed B.named
  have hlocks := B.notSynchronized
  subst hsz
  have hD := hD0.self (sz := s.heap.size)
  generalize hAe : va_A (wC cI cZ ad u) s.heap.size = A at hD hZ ⊢
  have hA : ∀ q : Nat, s.heap.size ≤ q → A q := fun q h => by rw [← hAe]; exact Or.inr h
  have hS : va_S A s.heap s.heap [] := va_S.rf
  have hf18 := hts _ mw_127
  have hl := lv_entry ([.ref (ad 4)]) (n := 2) (Nat.le_of_ble_eq_true rfl)
  rw [lg_entry_eq]
  generalize (lg_sl ([.ref (ad 4)]) ++ List.replicate (2 - (lg_sl ([.ref (ad 4)])).length) Slot.unset).toArray = ls at hl ⊢
  replace hl : lv_has ls 2 [(0, .ref (ad 4))] := hl
  refine w_gen (fun Q hQ => ?_)
  refine lv_iconst (v := 0) hx hb dX3_areLawful_0 (by decide) ?_
  refine lv_istore_n (lv' := [(1, .int (0 : Int32)), (0, .ref (ad 4))]) hx hb dX3_areLawful_1 rfl hl (by decide) rfl (fun ls hl => ?_)
  have hL2 : ∀ (k : Unit → Option (Int32)) (hk : ∀ (H : Heap) (locs : List Loc) (ls : Array Slot), k () = some r → va_P D vwCl (wC cI cZ ad u) H → va_D A (wC cI cZ ad u) → va_S A s.heap H locs → lv_has ls 2 [] → W p l e rX3_areLawful s m ([.ref (ad 4)] : List Value).toArray below meth c H locs 0 0 Q (F0 m 36 ls [])) (n : Nat) (x1_2 : Int32) (H : Heap) (locs : List Loc) (ls : Array Slot), lp_X3_areLawful_2 u k n x1_2 = some r → va_P D vwCl (wC cI cZ ad u) H → va_D A (wC cI cZ ad u) → va_S A s.heap H locs → lv_has ls 2 [(0, .ref (ad 4)), (1, .int x1_2)] → W p l e rX3_areLawful s m ([.ref (ad 4)] : List Value).toArray below meth c H locs 0 0 Q (F0 m 2 ls []) := by
    intro k hk n
    induction n with
    | zero =>
      intro x1_2 H locs ls h
      rw [lp_X3_areLawful_2] at h
      cases h
    | succ n ih =>
      intro x1_2 H locs ls h hP hD hS hl
      rw [lp_X3_areLawful_2] at h
      refine lv_iload_n hx hb dX3_areLawful_2 rfl (lv_at hl 1 rfl) ?_
      refine lv_bipush (v := 48) hx hb dX3_areLawful_3 (by decide) ?_
      refine lv_icmp_ge (tgt := 36) hx hb dX3_areLawful_5 (by decide) (fun c1 => ?_) (fun c1 => ?_)
      · replace h := gx_t c1 h
        exact hk _ _ _ h hP hD hS (lv_sub hl [] rfl)
      · replace h := gx_f c1 h
        refine lv_aload_n hx hb dX3_areLawful_8 rfl (lv_at hl 0 rfl) ?_
        refine va_get (D := D) (ci := 3) (v := .ref (ad 20)) (C := RX3) (T := TX3) (N := 3) hx hb hts iX3 hown hK hP 4 rfl rfl 2 (by decide) hf18 (fun _ h9 => h9) rfl dX3_areLawful_9 ?_
        refine lv_iload_n hx hb dX3_areLawful_12 rfl (lv_at hl 1 rfl) ?_
        obtain ⟨b2, h⟩ := gx_in h
        refine va_iald (D := D) hx hb hK hP 20 0 rfl rfl b2 dX3_areLawful_13 ?_
        obtain ⟨j30_3, ej30_3, h⟩ := gx_let h
        have hj30_3 : ∀ (H : Heap) (locs : List Loc) (ls : Array Slot), j30_3 () = some r → va_P D vwCl (wC cI cZ ad u) H → va_D A (wC cI cZ ad u) → va_S A s.heap H locs → lv_has ls 2 [(0, .ref (ad 4)), (1, .int x1_2)] → W p l e rX3_areLawful s m ([.ref (ad 4)] : List Value).toArray below meth c H locs 0 0 Q (F0 m 30 ls []) := by
          intro  H locs ls h hP hD hS hl
          subst ej30_3
          obtain ⟨v4, ev4, h⟩ := gx_let h
          refine lv_iinc (v := v4) (lv' := [(1, .int v4), (0, .ref (ad 4))]) hx hb dX3_areLawful_30 hl (k := 1) rfl (by rw [← ev4]; rfl) (by decide) rfl (fun ls hl => ?_)
          refine lv_goto (tgt := 2) hx hb dX3_areLawful_33 (by decide) ?_
          exact ih v4 _ _ _ h hP hD hS (lv_sub hl [1, 0] rfl)
        refine lv_if_ne (tgt := 30) hx hb dX3_areLawful_14 (by decide) (fun c5 => ?_) (fun c5 => ?_)
        · replace h := gx_f c5 h
          exact hj30_3 _ _ _ h hP hD hS (lv_sub hl [0, 1] rfl)
        · replace h := gx_t c5 h
          refine lv_iload_n hx hb dX3_areLawful_17 rfl (lv_at hl 1 rfl) ?_
          refine lv_aload_n hx hb dX3_areLawful_18 rfl (lv_at hl 0 rfl) ?_
          refine va_get (D := D) (ci := 3) (v := .ref (ad 20)) (C := RX3) (T := TX3) (N := 3) hx hb hts iX3 hown hK hP 4 rfl rfl 2 (by decide) hf18 (fun _ h9 => h9) rfl dX3_areLawful_19 ?_
          obtain ⟨y6, hc7, h⟩ := gx_bind h
          refine cc_iS (As := [.int x1_2, .ref (ad 20)]) (rest := []) ⟨hx, hb, hml, hown, hts⟩ (k_X3_isAheadOfCross_s l D cI cZ ad u x1_2 hc7) (va_cwS 2 hts (gwS mw_259 mw_260 mw_23 mw_261) rfl rfl rfl (by decide +kernel) ⟨Nat.le_of_ble_eq_true rfl, Nat.le_of_ble_eq_true rfl⟩) hK hP hD hS hA hZ rfl hl.1 rfl (Nat.le_of_ble_eq_true rfl) dX3_areLawful_22 ⟨Nat.zero_le _, Nat.zero_le _⟩ (fun H locs hP hD hS => ?_)
          refine lv_if_eq (tgt := 30) hx hb dX3_areLawful_25 (by decide) (fun c8 => ?_) (fun c8 => ?_)
          · replace h := gx_t c8 h
            exact hj30_3 _ _ _ h hP hD hS (lv_sub hl [0, 1] rfl)
          · replace h := gx_f c8 h
            refine lv_iconst (v := 0) hx hb dX3_areLawful_28 (by decide) ?_
            cases h
            exact cc_ret hx hb hr rfl hQ hK hP hD hS rfl dX3_areLawful_29 hlocks
  refine hL2 _ (fun H locs ls h hP hD hS hl => ?_) FU (0 : Int32) _ _ _ h hP hD hS (lv_sub hl [1, 0] rfl)
  refine lv_iconst (v := 1) hx hb dX3_areLawful_36 (by decide) ?_
  cases h
  exact cc_ret hx hb hr rfl hQ hK hP hD hS rfl dX3_areLawful_37 hlocks

def rX9_isLawful : Room := { frames := 5, cells := 0, slots := 0, locals := 114 }
set_option maxHeartbeats 4000000 in
set_option maxRecDepth 100000 in
theorem k_X9_isLawful (l : Launch) (D : va_G) (cI cZ : ClassId) (ad : Nat → Nat) (u : GS) {r : Int32} {w' : GS} (h : g_X9_isLawful u = some (r, w')) : MI l yX9_isLawful (wm yX9_isLawful cX9_isLawful 1 (some .boolean)) rX9_isLawful D [(cI, .int), (cZ, .boolean)] (wC cI cZ ad u) (wC cI cZ ad w') [.ref (ad 0)] r := by
  intro sz
  refine Met.ofW (cc := cX9_isLawful) (maxL := 1) (ret := (some .boolean)) (by decide) rfl ?_
  intro p e s m args below meth c s₁ B hml hv
  obtain ⟨rfl, hsz, hP, hK, hD0, hZ⟩ := hv
  have hx := B.exec
  have hb := B.bytes
  have hr := B.returns
  have hts : ∀ w ∈ Wall, w.before _ s = true := fun w hw => atoms_spec (ws := wm yX9_isLawful cX9_isLawful 1 (some .boolean)) B.pre w (List.mem_cons_of_mem _ hw)
  have hown : s.vm.findClass RX9 = some m.cls := findClass_of_methodNamed B.named
  have hlocks := B.notSynchronized
  subst hsz
  have hD := hD0.self (sz := s.heap.size)
  generalize hAe : va_A (wC cI cZ ad u) s.heap.size = A at hD hZ ⊢
  have hA : ∀ q : Nat, s.heap.size ≤ q → A q := fun q h => by rw [← hAe]; exact Or.inr h
  have hS : va_S A s.heap s.heap [] := va_S.rf
  have hf30 := hts _ mw_277
  have hf37 := hts _ mw_278
  have hl := lv_entry ([.ref (ad 0)]) (n := 1) (Nat.le_of_ble_eq_true rfl)
  rw [lg_entry_eq]
  generalize (lg_sl ([.ref (ad 0)]) ++ List.replicate (1 - (lg_sl ([.ref (ad 0)])).length) Slot.unset).toArray = ls at hl ⊢
  replace hl : lv_has ls 1 [(0, .ref (ad 0))] := hl
  refine w_gen (fun Q hQ => ?_)
  refine lv_aload_n hx hb dX9_isLawful_0 rfl (lv_at hl 0 rfl) ?_
  obtain ⟨y1, hc2, h⟩ := gx_bind h
  refine cc_vV (As := []) (rest := []) ⟨hx, hb, hml, hown, hts⟩ (k_X9_setLaneSigns l D cI cZ ad u hc2) (cwV 0 hts (gwV mw_387 mw_389 mw_2 mw_19 mw_390) rfl rfl rfl (by decide +kernel) ⟨Nat.le_of_ble_eq_true rfl, Nat.le_of_ble_eq_true rfl⟩) hK hP hD hS hA hZ (ci := 9) (q0 := 0) rfl rfl rfl hl.1 rfl (Nat.le_of_ble_eq_true rfl) dX9_isLawful_1 ⟨Nat.zero_le _, Nat.zero_le _⟩ (fun H locs hP hD hS => ?_)
  refine lv_aload_n hx hb dX9_isLawful_4 rfl (lv_at hl 0 rfl) ?_
  refine va_get (D := D) (ci := 9) (v := .ref (ad 3)) (C := RX9) (T := TX9) (N := 10) hx hb hts iX9 hown hK hP 0 rfl rfl 3 (by decide) hf30 (fun _ h9 => h9) rfl dX9_isLawful_5 ?_
  obtain ⟨y3, hc4, h⟩ := gx_bind h
  refine cc_iV (As := []) (rest := []) ⟨hx, hb, hml, hown, hts⟩ (k_X7_areLawful l D cI cZ ad y1 hc4) (cwV 0 hts (gwV mw_396 mw_397 mw_398 mw_22 mw_399) rfl rfl rfl (by decide +kernel) ⟨Nat.le_of_ble_eq_true rfl, Nat.le_of_ble_eq_true rfl⟩) hK hP hD hS hA hZ (ci := 7) (q0 := 3) rfl rfl rfl hl.1 rfl (Nat.le_of_ble_eq_true rfl) dX9_isLawful_8 ⟨Nat.zero_le _, Nat.zero_le _⟩ (fun H locs hP hD hS => ?_)
  refine lv_if_eq (tgt := 28) hx hb dX9_isLawful_11 (by decide) (fun c5 => ?_) (fun c5 => ?_)
  · replace h := gx_t c5 h
    refine lv_iconst (v := 0) hx hb dX9_isLawful_28 (by decide) ?_
    cases h
    exact cc_ret hx hb hr rfl hQ hK hP hD hS rfl dX9_isLawful_29 hlocks
  · replace h := gx_f c5 h
    refine lv_aload_n hx hb dX9_isLawful_14 rfl (lv_at hl 0 rfl) ?_
    refine va_get (D := D) (ci := 9) (v := .ref (ad 4)) (C := RX9) (T := TX9) (N := 10) hx hb hts iX9 hown hK hP 0 rfl rfl 4 (by decide) hf37 (fun _ h9 => h9) rfl dX9_isLawful_15 ?_
    obtain ⟨y6, hc7, h⟩ := gx_bind h
    refine cc_iV (As := []) (rest := []) ⟨hx, hb, hml, hown, hts⟩ (k_X3_areLawful l D cI cZ ad y1 hc7) (cwV 0 hts (gwV mw_400 mw_401 mw_402 mw_23 mw_403) rfl rfl rfl (by decide +kernel) ⟨Nat.le_of_ble_eq_true rfl, Nat.le_of_ble_eq_true rfl⟩) hK hP hD hS hA hZ (ci := 3) (q0 := 4) rfl rfl rfl hl.1 rfl (Nat.le_of_ble_eq_true rfl) dX9_isLawful_18 ⟨Nat.zero_le _, Nat.zero_le _⟩ (fun H locs hP hD hS => ?_)
    refine lv_if_eq (tgt := 28) hx hb dX9_isLawful_21 (by decide) (fun c8 => ?_) (fun c8 => ?_)
    · replace h := gx_t c8 h
      refine lv_iconst (v := 0) hx hb dX9_isLawful_28 (by decide) ?_
      cases h
      exact cc_ret hx hb hr rfl hQ hK hP hD hS rfl dX9_isLawful_29 hlocks
    · replace h := gx_f c8 h
      refine lv_iconst (v := 1) hx hb dX9_isLawful_24 (by decide) ?_
      refine lv_goto (tgt := 29) hx hb dX9_isLawful_25 (by decide) ?_
      cases h
      exact cc_ret hx hb hr rfl hQ hK hP hD hS rfl dX9_isLawful_29 hlocks

def rX8_mostIn : Room := { frames := 0, cells := 0, slots := 0, locals := 0 }
set_option maxHeartbeats 4000000 in
set_option maxRecDepth 100000 in
theorem k_X8_mostIn (l : Launch) (D : va_G) (cI cZ : ClassId) (ad : Nat → Nat) (u : GS) (p0 : Int32) {r : Int32} (h : g_X8_mostIn u p0 = some r) : MI l yX8_mostIn (wm yX8_mostIn cX8_mostIn 5 (some .int)) rX8_mostIn D [(cI, .int), (cZ, .boolean)] (wC cI cZ ad u) (wC cI cZ ad u) [.ref (ad 1), .int p0] r := by
  intro sz
  refine Met.ofW (cc := cX8_mostIn) (maxL := 5) (ret := (some .int)) (by decide) rfl ?_
  intro p e s m args below meth c s₁ B hml hv
  obtain ⟨rfl, hsz, hP, hK, hD0, hZ⟩ := hv
  have hx := B.exec
  have hb := B.bytes
  have hr := B.returns
  have hts : ∀ w ∈ Wall, w.before _ s = true := fun w hw => atoms_spec (ws := wm yX8_mostIn cX8_mostIn 5 (some .int)) B.pre w (List.mem_cons_of_mem _ hw)
  have hown : s.vm.findClass RX8 = some m.cls := findClass_of_methodNamed B.named
  have hlocks := B.notSynchronized
  subst hsz
  have hD := hD0.self (sz := s.heap.size)
  generalize hAe : va_A (wC cI cZ ad u) s.heap.size = A at hD hZ ⊢
  have hA : ∀ q : Nat, s.heap.size ≤ q → A q := fun q h => by rw [← hAe]; exact Or.inr h
  have hS : va_S A s.heap s.heap [] := va_S.rf
  have hf9 := hts _ mw_50
  have hl := lv_entry ([.ref (ad 1), .int p0]) (n := 5) (Nat.le_of_ble_eq_true rfl)
  rw [lg_entry_eq]
  generalize (lg_sl ([.ref (ad 1), .int p0]) ++ List.replicate (5 - (lg_sl ([.ref (ad 1), .int p0])).length) Slot.unset).toArray = ls at hl ⊢
  replace hl : lv_has ls 5 [(0, .ref (ad 1)), (1, .int p0)] := hl
  refine w_gen (fun Q hQ => ?_)
  refine lv_iload_n hx hb dX8_mostIn_0 rfl (lv_at hl 1 rfl) ?_
  refine lv_if_lt (tgt := 10) hx hb dX8_mostIn_1 (by decide) (fun c1 => ?_) (fun c1 => ?_)
  · replace h := gx_t c1 h
    refine lv_iconst (v := 0) hx hb dX8_mostIn_10 (by decide) ?_
    cases h
    exact cc_ret hx hb hr rfl hQ hK hP hD hS rfl dX8_mostIn_11 hlocks
  · replace h := gx_f c1 h
    refine lv_iload_n hx hb dX8_mostIn_4 rfl (lv_at hl 1 rfl) ?_
    refine lv_bipush (v := 12) hx hb dX8_mostIn_5 (by decide) ?_
    refine lv_icmp_lt (tgt := 12) hx hb dX8_mostIn_7 (by decide) (fun c2 => ?_) (fun c2 => ?_)
    · replace h := gx_t c2 h
      refine lv_iconst (v := 0) hx hb dX8_mostIn_12 (by decide) ?_
      refine lv_istore_n (lv' := [(2, .int (0 : Int32)), (0, .ref (ad 1)), (1, .int p0)]) hx hb dX8_mostIn_13 rfl hl (by decide) rfl (fun ls hl => ?_)
      refine lv_iconst (v := 0) hx hb dX8_mostIn_14 (by decide) ?_
      refine lv_istore_n (lv' := [(3, .int (0 : Int32)), (2, .int (0 : Int32)), (0, .ref (ad 1)), (1, .int p0)]) hx hb dX8_mostIn_15 rfl hl (by decide) rfl (fun ls hl => ?_)
      have hL16 : ∀ (k : Int32 → Option (Int32)) (hk : ∀ (x2_16 : Int32) (H : Heap) (locs : List Loc) (ls : Array Slot), k x2_16 = some r → va_P D vwCl (wC cI cZ ad u) H → va_D A (wC cI cZ ad u) → va_S A s.heap H locs → lv_has ls 5 [(2, .int x2_16)] → W p l e rX8_mostIn s m ([.ref (ad 1), .int p0] : List Value).toArray below meth c H locs 0 0 Q (F0 m 52 ls [])) (n : Nat) (x2_16 : Int32) (x3_16 : Int32) (H : Heap) (locs : List Loc) (ls : Array Slot), lp_X8_mostIn_16 u p0 k n x2_16 x3_16 = some r → va_P D vwCl (wC cI cZ ad u) H → va_D A (wC cI cZ ad u) → va_S A s.heap H locs → lv_has ls 5 [(0, .ref (ad 1)), (1, .int p0), (2, .int x2_16), (3, .int x3_16)] → W p l e rX8_mostIn s m ([.ref (ad 1), .int p0] : List Value).toArray below meth c H locs 0 0 Q (F0 m 16 ls []) := by
        intro k hk n
        induction n with
        | zero =>
          intro x2_16 x3_16 H locs ls h
          rw [lp_X8_mostIn_16] at h
          cases h
        | succ n ih =>
          intro x2_16 x3_16 H locs ls h hP hD hS hl
          rw [lp_X8_mostIn_16] at h
          refine lv_iload_n hx hb dX8_mostIn_16 rfl (lv_at hl 3 rfl) ?_
          refine lv_iconst (v := 4) hx hb dX8_mostIn_17 (by decide) ?_
          refine lv_icmp_ge (tgt := 52) hx hb dX8_mostIn_18 (by decide) (fun c3 => ?_) (fun c3 => ?_)
          · replace h := gx_t c3 h
            exact hk x2_16 _ _ _ h hP hD hS (lv_sub hl [2] rfl)
          · replace h := gx_f c3 h
            refine lv_aload_n hx hb dX8_mostIn_21 rfl (lv_at hl 0 rfl) ?_
            refine va_get (D := D) (ci := 8) (v := .ref (ad 10)) (C := RX8) (T := TX8) (N := 7) hx hb hts iX8 hown hK hP 1 rfl rfl 0 (by decide) hf9 (fun _ h9 => h9) rfl dX8_mostIn_22 ?_
            refine lv_iload_n hx hb dX8_mostIn_25 rfl (lv_at hl 1 rfl) ?_
            refine lv_iconst (v := 4) hx hb dX8_mostIn_26 (by decide) ?_
            refine lv_imul hx hb dX8_mostIn_27 ?_
            refine lv_iload_n hx hb dX8_mostIn_28 rfl (lv_at hl 3 rfl) ?_
            refine lv_iadd hx hb dX8_mostIn_29 ?_
            obtain ⟨b4, h⟩ := gx_in h
            refine va_iald (D := D) hx hb hK hP 10 0 rfl rfl b4 dX8_mostIn_30 ?_
            obtain ⟨v5, ev5, h⟩ := gx_let h
            refine lv_topn ev5 ?_
            refine lv_istore (lv' := [(4, .int v5), (0, .ref (ad 1)), (1, .int p0), (2, .int x2_16), (3, .int x3_16)]) hx hb dX8_mostIn_31 hl (by decide) rfl (fun ls hl => ?_)
            refine lv_iload hx hb dX8_mostIn_33 (lv_at hl 0 rfl) ?_
            refine lv_iload_n hx hb dX8_mostIn_35 rfl (lv_at hl 3 rfl) ?_
            obtain ⟨j45_6, ej45_6, h⟩ := gx_let h
            have hj45_6 : ∀ (z0_45 : Int32) (H : Heap) (locs : List Loc) (ls : Array Slot), j45_6 z0_45 = some r → va_P D vwCl (wC cI cZ ad u) H → va_D A (wC cI cZ ad u) → va_S A s.heap H locs → lv_has ls 5 [(0, .ref (ad 1)), (1, .int p0), (3, .int x3_16)] → W p l e rX8_mostIn s m ([.ref (ad 1), .int p0] : List Value).toArray below meth c H locs 0 0 Q (F0 m 45 ls [.int z0_45]) := by
              intro z0_45 H locs ls h hP hD hS hl
              subst ej45_6
              refine lv_istore_n (lv' := [(2, .int z0_45), (0, .ref (ad 1)), (1, .int p0), (3, .int x3_16)]) hx hb dX8_mostIn_45 rfl hl (by decide) rfl (fun ls hl => ?_)
              obtain ⟨v7, ev7, h⟩ := gx_let h
              refine lv_iinc (v := v7) (lv' := [(3, .int v7), (2, .int z0_45), (0, .ref (ad 1)), (1, .int p0)]) hx hb dX8_mostIn_46 hl (k := 3) rfl (by rw [← ev7]; rfl) (by decide) rfl (fun ls hl => ?_)
              refine lv_goto (tgt := 16) hx hb dX8_mostIn_49 (by decide) ?_
              exact ih z0_45 v7 _ _ _ h hP hD hS (lv_sub hl [2, 3, 1, 0] rfl)
            refine lv_icmp_le (tgt := 44) hx hb dX8_mostIn_36 (by decide) (fun c8 => ?_) (fun c8 => ?_)
            · replace h := gx_t c8 h
              refine lv_iload_n hx hb dX8_mostIn_44 rfl (lv_at hl 3 rfl) ?_
              exact hj45_6 x2_16 _ _ _ h hP hD hS (lv_sub hl [1, 2, 4] rfl)
            · replace h := gx_f c8 h
              refine lv_iload hx hb dX8_mostIn_39 (lv_at hl 0 rfl) ?_
              refine lv_goto (tgt := 45) hx hb dX8_mostIn_41 (by decide) ?_
              exact hj45_6 v5 _ _ _ h hP hD hS (lv_sub hl [1, 2, 4] rfl)
      refine hL16 _ (fun x2_16 H locs ls h hP hD hS hl => ?_) FU (0 : Int32) (0 : Int32) _ _ _ h hP hD hS (lv_sub hl [2, 3, 1, 0] rfl)
      refine lv_iload_n hx hb dX8_mostIn_52 rfl (lv_at hl 0 rfl) ?_
      cases h
      exact cc_ret hx hb hr rfl hQ hK hP hD hS rfl dX8_mostIn_53 hlocks
    · replace h := gx_f c2 h
      refine lv_iconst (v := 0) hx hb dX8_mostIn_10 (by decide) ?_
      cases h
      exact cc_ret hx hb hr rfl hQ hK hP hD hS rfl dX8_mostIn_11 hlocks

def rX8_speedAt : Room := { frames := 1, cells := 0, slots := 0, locals := 24 }
set_option maxHeartbeats 4000000 in
set_option maxRecDepth 100000 in
theorem k_X8_speedAt (l : Launch) (D : va_G) (cI cZ : ClassId) (ad : Nat → Nat) (u : GS) (p0 : Int32) {r : Int32} (h : g_X8_speedAt u p0 = some r) : MI l yX8_speedAt (wm yX8_speedAt cX8_speedAt 2 (some .int)) rX8_speedAt D [(cI, .int), (cZ, .boolean)] (wC cI cZ ad u) (wC cI cZ ad u) [.ref (ad 1), .int p0] r := by
  intro sz
  refine Met.ofW (cc := cX8_speedAt) (maxL := 2) (ret := (some .int)) (by decide) rfl ?_
  intro p e s m args below meth c s₁ B hml hv
  obtain ⟨rfl, hsz, hP, hK, hD0, hZ⟩ := hv
  have hx := B.exec
  have hb := B.bytes
  have hr := B.returns
  have hts : ∀ w ∈ Wall, w.before _ s = true := fun w hw => atoms_spec (ws := wm yX8_speedAt cX8_speedAt 2 (some .int)) B.pre w (List.mem_cons_of_mem _ hw)
  have hown : s.vm.findClass RX8 = some m.cls := findClass_of_methodNamed B.named
  have hlocks := B.notSynchronized
  subst hsz
  have hD := hD0.self (sz := s.heap.size)
  generalize hAe : va_A (wC cI cZ ad u) s.heap.size = A at hD hZ ⊢
  have hA : ∀ q : Nat, s.heap.size ≤ q → A q := fun q h => by rw [← hAe]; exact Or.inr h
  have hS : va_S A s.heap s.heap [] := va_S.rf
  have hl := lv_entry ([.ref (ad 1), .int p0]) (n := 2) (Nat.le_of_ble_eq_true rfl)
  rw [lg_entry_eq]
  generalize (lg_sl ([.ref (ad 1), .int p0]) ++ List.replicate (2 - (lg_sl ([.ref (ad 1), .int p0])).length) Slot.unset).toArray = ls at hl ⊢
  replace hl : lv_has ls 2 [(0, .ref (ad 1)), (1, .int p0)] := hl
  refine w_gen (fun Q hQ => ?_)
  refine lv_bipush (v := 120) hx hb dX8_speedAt_0 (by decide) ?_
  refine lv_iconst (v := 5) hx hb dX8_speedAt_2 (by decide) ?_
  refine lv_aload_n hx hb dX8_speedAt_3 rfl (lv_at hl 0 rfl) ?_
  refine lv_iload_n hx hb dX8_speedAt_4 rfl (lv_at hl 1 rfl) ?_
  obtain ⟨y1, hc2, h⟩ := gx_bind h
  refine cc_iV (As := [.int p0]) (rest := [.int (5 : Int32), .int (120 : Int32)]) ⟨hx, hb, hml, hown, hts⟩ (k_X8_mostIn l D cI cZ ad u p0 hc2) (cwV 1 hts (gwV mw_417 mw_418 mw_419 mw_20 mw_420) rfl rfl rfl (by decide +kernel) ⟨Nat.le_of_ble_eq_true rfl, Nat.le_of_ble_eq_true rfl⟩) hK hP hD hS hA hZ (ci := 8) (q0 := 1) rfl rfl rfl hl.1 rfl (Nat.le_of_ble_eq_true rfl) dX8_speedAt_5 ⟨Nat.zero_le _, Nat.zero_le _⟩ (fun H locs hP hD hS => ?_)
  refine lv_imul hx hb dX8_speedAt_8 ?_
  refine lv_isub hx hb dX8_speedAt_9 ?_
  cases h
  exact cc_ret hx hb hr rfl hQ hK hP hD hS rfl dX8_speedAt_10 hlocks

def rX1_guessAt : Room := { frames := 2, cells := 0, slots := 0, locals := 45 }
set_option maxHeartbeats 4000000 in
set_option maxRecDepth 100000 in
theorem k_X1_guessAt (l : Launch) (D : va_G) (cI cZ : ClassId) (ad : Nat → Nat) (u : GS) (p0 : Int32) {r : Int32} (h : g_X1_guessAt u p0 = some r) : MI l yX1_guessAt (wm yX1_guessAt cX1_guessAt 6 (some .int)) rX1_guessAt D [(cI, .int), (cZ, .boolean)] (wC cI cZ ad u) (wC cI cZ ad u) [.ref (ad 2), .int p0, .ref (ad 1)] r := by
  intro sz
  refine Met.ofW (cc := cX1_guessAt) (maxL := 6) (ret := (some .int)) (by decide) rfl ?_
  intro p e s m args below meth c s₁ B hml hv
  obtain ⟨rfl, hsz, hP, hK, hD0, hZ⟩ := hv
  have hx := B.exec
  have hb := B.bytes
  have hr := B.returns
  have hts : ∀ w ∈ Wall, w.before _ s = true := fun w hw => atoms_spec (ws := wm yX1_guessAt cX1_guessAt 6 (some .int)) B.pre w (List.mem_cons_of_mem _ hw)
  have hown : s.vm.findClass RX1 = some m.cls := findClass_of_methodNamed B.named
  have hlocks := B.notSynchronized
  subst hsz
  have hD := hD0.self (sz := s.heap.size)
  generalize hAe : va_A (wC cI cZ ad u) s.heap.size = A at hD hZ ⊢
  have hA : ∀ q : Nat, s.heap.size ≤ q → A q := fun q h => by rw [← hAe]; exact Or.inr h
  have hS : va_S A s.heap s.heap [] := va_S.rf
  have hf9 := hts _ mw_87
  have hl := lv_entry ([.ref (ad 2), .int p0, .ref (ad 1)]) (n := 6) (Nat.le_of_ble_eq_true rfl)
  rw [lg_entry_eq]
  generalize (lg_sl ([.ref (ad 2), .int p0, .ref (ad 1)]) ++ List.replicate (6 - (lg_sl ([.ref (ad 2), .int p0, .ref (ad 1)])).length) Slot.unset).toArray = ls at hl ⊢
  replace hl : lv_has ls 6 [(0, .ref (ad 2)), (1, .int p0), (2, .ref (ad 1))] := hl
  refine w_gen (fun Q hQ => ?_)
  refine lv_iconst (v := 0) hx hb dX1_guessAt_0 (by decide) ?_
  refine lv_istore_n (lv' := [(3, .int (0 : Int32)), (0, .ref (ad 2)), (1, .int p0), (2, .ref (ad 1))]) hx hb dX1_guessAt_1 rfl hl (by decide) rfl (fun ls hl => ?_)
  refine lv_iconst (v := 0) hx hb dX1_guessAt_2 (by decide) ?_
  refine lv_istore (lv' := [(4, .int (0 : Int32)), (3, .int (0 : Int32)), (0, .ref (ad 2)), (1, .int p0), (2, .ref (ad 1))]) hx hb dX1_guessAt_3 hl (by decide) rfl (fun ls hl => ?_)
  refine lv_iconst (v := 0) hx hb dX1_guessAt_5 (by decide) ?_
  refine lv_istore (lv' := [(5, .int (0 : Int32)), (4, .int (0 : Int32)), (3, .int (0 : Int32)), (0, .ref (ad 2)), (1, .int p0), (2, .ref (ad 1))]) hx hb dX1_guessAt_6 hl (by decide) rfl (fun ls hl => ?_)
  have hL8 : ∀ (k : Int32 → Int32 → Option (Int32)) (hk : ∀ (x3_8 : Int32) (x4_8 : Int32) (H : Heap) (locs : List Loc) (ls : Array Slot), k x3_8 x4_8 = some r → va_P D vwCl (wC cI cZ ad u) H → va_D A (wC cI cZ ad u) → va_S A s.heap H locs → lv_has ls 6 [(3, .int x3_8), (4, .int x4_8)] → W p l e rX1_guessAt s m ([.ref (ad 2), .int p0, .ref (ad 1)] : List Value).toArray below meth c H locs 0 0 Q (F0 m 59 ls [])) (n : Nat) (x3_8 : Int32) (x4_8 : Int32) (x5_8 : Int32) (H : Heap) (locs : List Loc) (ls : Array Slot), lp_X1_guessAt_8 u p0 k n x3_8 x4_8 x5_8 = some r → va_P D vwCl (wC cI cZ ad u) H → va_D A (wC cI cZ ad u) → va_S A s.heap H locs → lv_has ls 6 [(0, .ref (ad 2)), (1, .int p0), (2, .ref (ad 1)), (3, .int x3_8), (4, .int x4_8), (5, .int x5_8)] → W p l e rX1_guessAt s m ([.ref (ad 2), .int p0, .ref (ad 1)] : List Value).toArray below meth c H locs 0 0 Q (F0 m 8 ls []) := by
    intro k hk n
    induction n with
    | zero =>
      intro x3_8 x4_8 x5_8 H locs ls h
      rw [lp_X1_guessAt_8] at h
      cases h
    | succ n ih =>
      intro x3_8 x4_8 x5_8 H locs ls h hP hD hS hl
      rw [lp_X1_guessAt_8] at h
      refine lv_iload hx hb dX1_guessAt_8 (lv_at hl 5 rfl) ?_
      refine lv_bipush (v := 12) hx hb dX1_guessAt_10 (by decide) ?_
      refine lv_icmp_ge (tgt := 59) hx hb dX1_guessAt_12 (by decide) (fun c1 => ?_) (fun c1 => ?_)
      · replace h := gx_t c1 h
        exact hk x3_8 x4_8 _ _ _ h hP hD hS (lv_sub hl [3, 4] rfl)
      · replace h := gx_f c1 h
        refine lv_iload hx hb dX1_guessAt_15 (lv_at hl 5 rfl) ?_
        refine lv_iload_n hx hb dX1_guessAt_17 rfl (lv_at hl 1 rfl) ?_
        refine lv_iconst (v := 1) hx hb dX1_guessAt_18 (by decide) ?_
        refine lv_isub hx hb dX1_guessAt_19 ?_
        obtain ⟨j53_2, ej53_2, h⟩ := gx_let h
        have hj53_2 : ∀ (x3_53 : Int32) (x4_53 : Int32) (H : Heap) (locs : List Loc) (ls : Array Slot), j53_2 x3_53 x4_53 = some r → va_P D vwCl (wC cI cZ ad u) H → va_D A (wC cI cZ ad u) → va_S A s.heap H locs → lv_has ls 6 [(0, .ref (ad 2)), (1, .int p0), (2, .ref (ad 1)), (3, .int x3_53), (4, .int x4_53), (5, .int x5_8)] → W p l e rX1_guessAt s m ([.ref (ad 2), .int p0, .ref (ad 1)] : List Value).toArray below meth c H locs 0 0 Q (F0 m 53 ls []) := by
          intro x3_53 x4_53 H locs ls h hP hD hS hl
          subst ej53_2
          obtain ⟨v3, ev3, h⟩ := gx_let h
          refine lv_iinc (v := v3) (lv' := [(5, .int v3), (0, .ref (ad 2)), (1, .int p0), (2, .ref (ad 1)), (3, .int x3_53), (4, .int x4_53)]) hx hb dX1_guessAt_53 hl (k := 5) rfl (by rw [← ev3]; rfl) (by decide) rfl (fun ls hl => ?_)
          refine lv_goto (tgt := 8) hx hb dX1_guessAt_56 (by decide) ?_
          exact ih x3_53 x4_53 v3 _ _ _ h hP hD hS (lv_sub hl [1, 2, 3, 4, 5, 0] rfl)
        obtain ⟨j31_4, ej31_4, h⟩ := gx_let h
        have hj31_4 : ∀ (H : Heap) (locs : List Loc) (ls : Array Slot), j31_4 () = some r → va_P D vwCl (wC cI cZ ad u) H → va_D A (wC cI cZ ad u) → va_S A s.heap H locs → lv_has ls 6 [(0, .ref (ad 2)), (1, .int p0), (2, .ref (ad 1)), (3, .int x3_8), (4, .int x4_8), (5, .int x5_8)] → W p l e rX1_guessAt s m ([.ref (ad 2), .int p0, .ref (ad 1)] : List Value).toArray below meth c H locs 0 0 Q (F0 m 31 ls []) := by
          intro  H locs ls h hP hD hS hl
          subst ej31_4
          refine lv_aload_n hx hb dX1_guessAt_31 rfl (lv_at hl 0 rfl) ?_
          refine va_get (D := D) (ci := 1) (v := .ref (ad 13)) (C := RX1) (T := TX1) (N := 2) hx hb hts iX1 hown hK hP 2 rfl rfl 0 (by decide) hf9 (fun _ h9 => h9) rfl dX1_guessAt_32 ?_
          refine lv_iload hx hb dX1_guessAt_35 (lv_at hl 5 rfl) ?_
          obtain ⟨b5, h⟩ := gx_in h
          refine va_iald (D := D) hx hb hK hP 13 0 rfl rfl b5 dX1_guessAt_37 ?_
          refine lv_if_ne (tgt := 53) hx hb dX1_guessAt_38 (by decide) (fun c6 => ?_) (fun c6 => ?_)
          · replace h := gx_f c6 h
            exact hj53_2 x3_8 x4_8 _ _ _ h hP hD hS (lv_sub hl [0, 1, 2, 3, 4, 5] rfl)
          · replace h := gx_t c6 h
            refine lv_iload_n hx hb dX1_guessAt_41 rfl (lv_at hl 3 rfl) ?_
            refine lv_aload_n hx hb dX1_guessAt_42 rfl (lv_at hl 2 rfl) ?_
            refine lv_iload hx hb dX1_guessAt_43 (lv_at hl 5 rfl) ?_
            obtain ⟨y7, hc8, h⟩ := gx_bind h
            refine cc_iV (As := [.int x5_8]) (rest := [.int x3_8]) ⟨hx, hb, hml, hown, hts⟩ (k_X8_speedAt l D cI cZ ad u x5_8 hc8) (cwV 1 hts (gwV mw_413 mw_414 mw_415 mw_20 mw_416) rfl rfl rfl (by decide +kernel) ⟨Nat.le_of_ble_eq_true rfl, Nat.le_of_ble_eq_true rfl⟩) hK hP hD hS hA hZ (ci := 8) (q0 := 1) rfl rfl rfl hl.1 rfl (Nat.le_of_ble_eq_true rfl) dX1_guessAt_45 ⟨Nat.zero_le _, Nat.zero_le _⟩ (fun H locs hP hD hS => ?_)
            refine lv_iadd hx hb dX1_guessAt_48 ?_
            obtain ⟨v9, ev9, h⟩ := gx_let h
            refine lv_topn ev9 ?_
            refine lv_istore_n (lv' := [(3, .int v9), (0, .ref (ad 2)), (1, .int p0), (2, .ref (ad 1)), (4, .int x4_8), (5, .int x5_8)]) hx hb dX1_guessAt_49 rfl hl (by decide) rfl (fun ls hl => ?_)
            obtain ⟨v10, ev10, h⟩ := gx_let h
            refine lv_iinc (v := v10) (lv' := [(4, .int v10), (3, .int v9), (0, .ref (ad 2)), (1, .int p0), (2, .ref (ad 1)), (5, .int x5_8)]) hx hb dX1_guessAt_50 hl (k := 4) rfl (by rw [← ev10]; rfl) (by decide) rfl (fun ls hl => ?_)
            exact hj53_2 v9 v10 _ _ _ h hP hD hS (lv_sub hl [2, 3, 4, 1, 0, 5] rfl)
        refine lv_icmp_eq (tgt := 31) hx hb dX1_guessAt_20 (by decide) (fun c11 => ?_) (fun c11 => ?_)
        · replace h := gx_t c11 h
          exact hj31_4 _ _ _ h hP hD hS (lv_sub hl [0, 1, 2, 3, 4, 5] rfl)
        · replace h := gx_f c11 h
          refine lv_iload hx hb dX1_guessAt_23 (lv_at hl 5 rfl) ?_
          refine lv_iload_n hx hb dX1_guessAt_25 rfl (lv_at hl 1 rfl) ?_
          refine lv_iconst (v := 1) hx hb dX1_guessAt_26 (by decide) ?_
          refine lv_iadd hx hb dX1_guessAt_27 ?_
          refine lv_icmp_ne (tgt := 53) hx hb dX1_guessAt_28 (by decide) (fun c12 => ?_) (fun c12 => ?_)
          · replace h := gx_f c12 h
            exact hj53_2 x3_8 x4_8 _ _ _ h hP hD hS (lv_sub hl [0, 1, 2, 3, 4, 5] rfl)
          · replace h := gx_t c12 h
            exact hj31_4 _ _ _ h hP hD hS (lv_sub hl [0, 1, 2, 3, 4, 5] rfl)
  refine hL8 _ (fun x3_8 x4_8 H locs ls h hP hD hS hl => ?_) FU (0 : Int32) (0 : Int32) (0 : Int32) _ _ _ h hP hD hS (lv_sub hl [3, 4, 5, 2, 1, 0] rfl)
  refine lv_iload hx hb dX1_guessAt_59 (lv_at hl 1 rfl) ?_
  refine lv_if_ne (tgt := 68) hx hb dX1_guessAt_61 (by decide) (fun c13 => ?_) (fun c13 => ?_)
  · replace h := gx_f c13 h
    refine lv_iload_n hx hb dX1_guessAt_68 rfl (lv_at hl 0 rfl) ?_
    refine lv_iload hx hb dX1_guessAt_69 (lv_at hl 1 rfl) ?_
    obtain ⟨n14, h⟩ := gx_nz h
    refine lv_idiv hx hb dX1_guessAt_71 n14 ?_
    cases h
    exact cc_ret hx hb hr rfl hQ hK hP hD hS rfl dX1_guessAt_72 hlocks
  · replace h := gx_t c13 h
    refine lv_iconst (v := (-1)) hx hb dX1_guessAt_64 (by decide) ?_
    refine lv_goto (tgt := 72) hx hb dX1_guessAt_65 (by decide) ?_
    cases h
    exact cc_ret hx hb hr rfl hQ hK hP hD hS rfl dX1_guessAt_72 hlocks

def rX1_beliefAt : Room := { frames := 3, cells := 0, slots := 0, locals := 70 }
set_option maxHeartbeats 4000000 in
set_option maxRecDepth 100000 in
theorem k_X1_beliefAt (l : Launch) (D : va_G) (cI cZ : ClassId) (ad : Nat → Nat) (u : GS) (p0 : Int32) {r : Int32} (h : g_X1_beliefAt u p0 = some r) : MI l yX1_beliefAt (wm yX1_beliefAt cX1_beliefAt 5 (some .int)) rX1_beliefAt D [(cI, .int), (cZ, .boolean)] (wC cI cZ ad u) (wC cI cZ ad u) [.ref (ad 2), .int p0, .ref (ad 1)] r := by
  intro sz
  refine Met.ofW (cc := cX1_beliefAt) (maxL := 5) (ret := (some .int)) (by decide) rfl ?_
  intro p e s m args below meth c s₁ B hml hv
  obtain ⟨rfl, hsz, hP, hK, hD0, hZ⟩ := hv
  have hx := B.exec
  have hb := B.bytes
  have hr := B.returns
  have hts : ∀ w ∈ Wall, w.before _ s = true := fun w hw => atoms_spec (ws := wm yX1_beliefAt cX1_beliefAt 5 (some .int)) B.pre w (List.mem_cons_of_mem _ hw)
  have hown : s.vm.findClass RX1 = some m.cls := findClass_of_methodNamed B.named
  have hlocks := B.notSynchronized
  subst hsz
  have hD := hD0.self (sz := s.heap.size)
  generalize hAe : va_A (wC cI cZ ad u) s.heap.size = A at hD hZ ⊢
  have hA : ∀ q : Nat, s.heap.size ≤ q → A q := fun q h => by rw [← hAe]; exact Or.inr h
  have hS : va_S A s.heap s.heap [] := va_S.rf
  have hf9 := hts _ mw_87
  have hf15 := hts _ mw_89
  have hl := lv_entry ([.ref (ad 2), .int p0, .ref (ad 1)]) (n := 5) (Nat.le_of_ble_eq_true rfl)
  rw [lg_entry_eq]
  generalize (lg_sl ([.ref (ad 2), .int p0, .ref (ad 1)]) ++ List.replicate (5 - (lg_sl ([.ref (ad 2), .int p0, .ref (ad 1)])).length) Slot.unset).toArray = ls at hl ⊢
  replace hl : lv_has ls 5 [(0, .ref (ad 2)), (1, .int p0), (2, .ref (ad 1))] := hl
  refine w_gen (fun Q hQ => ?_)
  refine lv_iload_n hx hb dX1_beliefAt_0 rfl (lv_at hl 1 rfl) ?_
  refine lv_iconst (v := 0) hx hb dX1_beliefAt_1 (by decide) ?_
  refine lv_bipush (v := 11) hx hb dX1_beliefAt_2 (by decide) ?_
  obtain ⟨y1, hc2, h⟩ := gx_bind h
  refine cc_iSN (As := [.int p0, .int (0 : Int32), .int (11 : Int32)]) (rest := []) ⟨hx, hb, hml, hown, hts⟩ (k_X9_isWithin l D cI cZ ad u p0 (0 : Int32) (11 : Int32) hc2) ⟨va_cnB 3 hts (gwM mw_244) rfl rfl rfl (hZ.1 ("RedcrossGantry$Detectors", 24, yX9_isWithin) (by decide +kernel)) (hts _ mw_19) (by decide +kernel) ⟨Nat.le_of_ble_eq_true rfl, Nat.le_of_ble_eq_true rfl⟩, hts _ mw_243, trivial⟩ hK hP hD hS hA hZ rfl hl.1 rfl (Nat.le_of_ble_eq_true rfl) dX1_beliefAt_4 ⟨Nat.zero_le _, Nat.zero_le _⟩ (fun H locs hP hD hS => ?_)
  refine lv_if_ne (tgt := 12) hx hb dX1_beliefAt_7 (by decide) (fun c3 => ?_) (fun c3 => ?_)
  · replace h := gx_f c3 h
    refine lv_aload_n hx hb dX1_beliefAt_12 rfl (lv_at hl 0 rfl) ?_
    refine va_get (D := D) (ci := 1) (v := .ref (ad 13)) (C := RX1) (T := TX1) (N := 2) hx hb hts iX1 hown hK hP 2 rfl rfl 0 (by decide) hf9 (fun _ h9 => h9) rfl dX1_beliefAt_13 ?_
    refine lv_iload_n hx hb dX1_beliefAt_16 rfl (lv_at hl 1 rfl) ?_
    obtain ⟨b4, h⟩ := gx_in h
    refine va_iald (D := D) hx hb hK hP 13 0 rfl rfl b4 dX1_beliefAt_17 ?_
    refine lv_if_ne (tgt := 27) hx hb dX1_beliefAt_18 (by decide) (fun c5 => ?_) (fun c5 => ?_)
    · replace h := gx_f c5 h
      refine lv_aload_n hx hb dX1_beliefAt_27 rfl (lv_at hl 0 rfl) ?_
      refine lv_iload_n hx hb dX1_beliefAt_28 rfl (lv_at hl 1 rfl) ?_
      refine lv_aload_n hx hb dX1_beliefAt_29 rfl (lv_at hl 2 rfl) ?_
      obtain ⟨y6, hc7, h⟩ := gx_bind h
      refine cc_iV (As := [.int p0, .ref (ad 1)]) (rest := []) ⟨hx, hb, hml, hown, hts⟩ (k_X1_guessAt l D cI cZ ad u p0 hc7) (cwV 2 hts (gwV mw_421 mw_422 mw_423 mw_21 mw_424) rfl rfl rfl (by decide +kernel) ⟨Nat.le_of_ble_eq_true rfl, Nat.le_of_ble_eq_true rfl⟩) hK hP hD hS hA hZ (ci := 1) (q0 := 2) rfl rfl rfl hl.1 rfl (Nat.le_of_ble_eq_true rfl) dX1_beliefAt_30 ⟨Nat.zero_le _, Nat.zero_le _⟩ (fun H locs hP hD hS => ?_)
      refine lv_istore_n (lv' := [(3, .int y6), (0, .ref (ad 2)), (1, .int p0), (2, .ref (ad 1))]) hx hb dX1_beliefAt_33 rfl hl (by decide) rfl (fun ls hl => ?_)
      refine lv_aload_n hx hb dX1_beliefAt_34 rfl (lv_at hl 1 rfl) ?_
      refine va_get (D := D) (ci := 1) (v := .ref (ad 13)) (C := RX1) (T := TX1) (N := 2) hx hb hts iX1 hown hK hP 2 rfl rfl 0 (by decide) hf9 (fun _ h9 => h9) rfl dX1_beliefAt_35 ?_
      refine lv_iload_n hx hb dX1_beliefAt_38 rfl (lv_at hl 2 rfl) ?_
      obtain ⟨b8, h⟩ := gx_in h
      refine va_iald (D := D) hx hb hK hP 13 0 rfl rfl b8 dX1_beliefAt_39 ?_
      refine lv_iconst (v := 2) hx hb dX1_beliefAt_40 (by decide) ?_
      refine lv_icmp_ne (tgt := 46) hx hb dX1_beliefAt_41 (by decide) (fun c9 => ?_) (fun c9 => ?_)
      · replace h := gx_f c9 h
        refine lv_aload_n hx hb dX1_beliefAt_46 rfl (lv_at hl 1 rfl) ?_
        refine va_get (D := D) (ci := 1) (v := .ref (ad 14)) (C := RX1) (T := TX1) (N := 2) hx hb hts iX1 hown hK hP 2 rfl rfl 1 (by decide) hf15 (fun _ h9 => h9) rfl dX1_beliefAt_47 ?_
        refine lv_iload_n hx hb dX1_beliefAt_50 rfl (lv_at hl 2 rfl) ?_
        obtain ⟨b10, h⟩ := gx_in h
        refine va_iald (D := D) hx hb hK hP 14 0 rfl rfl b10 dX1_beliefAt_51 ?_
        obtain ⟨v11, ev11, h⟩ := gx_let h
        refine lv_topn ev11 ?_
        refine lv_istore (lv' := [(4, .int v11), (3, .int y6), (0, .ref (ad 2)), (1, .int p0), (2, .ref (ad 1))]) hx hb dX1_beliefAt_52 hl (by decide) rfl (fun ls hl => ?_)
        refine lv_iload_n hx hb dX1_beliefAt_54 rfl (lv_at hl 1 rfl) ?_
        refine lv_iconst (v := (-1)) hx hb dX1_beliefAt_55 (by decide) ?_
        refine lv_icmp_eq (tgt := 75) hx hb dX1_beliefAt_56 (by decide) (fun c12 => ?_) (fun c12 => ?_)
        · replace h := gx_t c12 h
          refine lv_iload hx hb dX1_beliefAt_75 (lv_at hl 0 rfl) ?_
          cases h
          exact cc_ret hx hb hr rfl hQ hK hP hD hS rfl dX1_beliefAt_77 hlocks
        · replace h := gx_f c12 h
          refine lv_iload_n hx hb dX1_beliefAt_59 rfl (lv_at hl 1 rfl) ?_
          refine lv_iload hx hb dX1_beliefAt_60 (lv_at hl 0 rfl) ?_
          refine lv_isub hx hb dX1_beliefAt_62 ?_
          refine va_mabs hx hb (hml.trans hl.1.symm) hown (hts _ mw_425) (hts _ mw_426) (hts _ mw_29) (hts _ mw_427) (Nat.le_of_ble_eq_true rfl) (Nat.le_of_ble_eq_true rfl) (Nat.zero_le _) (Nat.zero_le _) dX1_beliefAt_63 ?_
          refine lv_bipush (v := 30) hx hb dX1_beliefAt_66 (by decide) ?_
          refine lv_icmp_le (tgt := 75) hx hb dX1_beliefAt_68 (by decide) (fun c13 => ?_) (fun c13 => ?_)
          · replace h := gx_t c13 h
            refine lv_iload hx hb dX1_beliefAt_75 (lv_at hl 0 rfl) ?_
            cases h
            exact cc_ret hx hb hr rfl hQ hK hP hD hS rfl dX1_beliefAt_77 hlocks
          · replace h := gx_f c13 h
            refine lv_iload_n hx hb dX1_beliefAt_71 rfl (lv_at hl 1 rfl) ?_
            refine lv_goto (tgt := 77) hx hb dX1_beliefAt_72 (by decide) ?_
            cases h
            exact cc_ret hx hb hr rfl hQ hK hP hD hS rfl dX1_beliefAt_77 hlocks
      · replace h := gx_t c9 h
        refine lv_iload_n hx hb dX1_beliefAt_44 rfl (lv_at hl 0 rfl) ?_
        cases h
        exact cc_ret hx hb hr rfl hQ hK hP hD hS rfl dX1_beliefAt_45 hlocks
    · replace h := gx_t c5 h
      refine lv_aload_n hx hb dX1_beliefAt_21 rfl (lv_at hl 2 rfl) ?_
      refine lv_iload_n hx hb dX1_beliefAt_22 rfl (lv_at hl 1 rfl) ?_
      obtain ⟨y14, hc15, h⟩ := gx_bind h
      refine cc_iV (As := [.int p0]) (rest := []) ⟨hx, hb, hml, hown, hts⟩ (k_X8_speedAt l D cI cZ ad u p0 hc15) (cwV 1 hts (gwV mw_413 mw_414 mw_415 mw_20 mw_416) rfl rfl rfl (by decide +kernel) ⟨Nat.le_of_ble_eq_true rfl, Nat.le_of_ble_eq_true rfl⟩) hK hP hD hS hA hZ (ci := 8) (q0 := 1) rfl rfl rfl hl.1 rfl (Nat.le_of_ble_eq_true rfl) dX1_beliefAt_23 ⟨Nat.zero_le _, Nat.zero_le _⟩ (fun H locs hP hD hS => ?_)
      cases h
      exact cc_ret hx hb hr rfl hQ hK hP hD hS rfl dX1_beliefAt_26 hlocks
  · replace h := gx_t c3 h
    refine lv_iconst (v := (-1)) hx hb dX1_beliefAt_10 (by decide) ?_
    cases h
    exact cc_ret hx hb hr rfl hQ hK hP hD hS rfl dX1_beliefAt_11 hlocks

def rX9_pattern : Room := { frames := 4, cells := 0, slots := 0, locals := 94 }
set_option maxHeartbeats 4000000 in
set_option maxRecDepth 100000 in
theorem k_X9_pattern (l : Launch) (D : va_G) (cI cZ : ClassId) (ad : Nat → Nat) (u : GS) {r : Int32} (h : g_X9_pattern u = some r) : MI l yX9_pattern (wm yX9_pattern cX9_pattern 3 (some .int)) rX9_pattern D [(cI, .int), (cZ, .boolean)] (wC cI cZ ad u) (wC cI cZ ad u) [.ref (ad 0)] r := by
  intro sz
  refine Met.ofW (cc := cX9_pattern) (maxL := 3) (ret := (some .int)) (by decide) rfl ?_
  intro p e s m args below meth c s₁ B hml hv
  obtain ⟨rfl, hsz, hP, hK, hD0, hZ⟩ := hv
  have hx := B.exec
  have hb := B.bytes
  have hr := B.returns
  have hts : ∀ w ∈ Wall, w.before _ s = true := fun w hw => atoms_spec (ws := wm yX9_pattern cX9_pattern 3 (some .int)) B.pre w (List.mem_cons_of_mem _ hw)
  have hown : s.vm.findClass RX9 = some m.cls := findClass_of_methodNamed B.named
  have hlocks := B.notSynchronized
  subst hsz
  have hD := hD0.self (sz := s.heap.size)
  generalize hAe : va_A (wC cI cZ ad u) s.heap.size = A at hD hZ ⊢
  have hA : ∀ q : Nat, s.heap.size ≤ q → A q := fun q h => by rw [← hAe]; exact Or.inr h
  have hS : va_S A s.heap s.heap [] := va_S.rf
  have hf23 := hts _ mw_276
  have hf16 := hts _ mw_275
  have hl := lv_entry ([.ref (ad 0)]) (n := 3) (Nat.le_of_ble_eq_true rfl)
  rw [lg_entry_eq]
  generalize (lg_sl ([.ref (ad 0)]) ++ List.replicate (3 - (lg_sl ([.ref (ad 0)])).length) Slot.unset).toArray = ls at hl ⊢
  replace hl : lv_has ls 3 [(0, .ref (ad 0))] := hl
  refine w_gen (fun Q hQ => ?_)
  refine lv_iconst (v := 0) hx hb dX9_pattern_0 (by decide) ?_
  refine lv_istore_n (lv' := [(1, .int (0 : Int32)), (0, .ref (ad 0))]) hx hb dX9_pattern_1 rfl hl (by decide) rfl (fun ls hl => ?_)
  have hL2 : ∀ (k : Unit → Option (Int32)) (hk : ∀ (H : Heap) (locs : List Loc) (ls : Array Slot), k () = some r → va_P D vwCl (wC cI cZ ad u) H → va_D A (wC cI cZ ad u) → va_S A s.heap H locs → lv_has ls 3 [] → W p l e rX9_pattern s m ([.ref (ad 0)] : List Value).toArray below meth c H locs 0 0 Q (F0 m 59 ls [])) (n : Nat) (x1_2 : Int32) (H : Heap) (locs : List Loc) (ls : Array Slot), lp_X9_pattern_2 u k n x1_2 = some r → va_P D vwCl (wC cI cZ ad u) H → va_D A (wC cI cZ ad u) → va_S A s.heap H locs → lv_has ls 3 [(0, .ref (ad 0)), (1, .int x1_2)] → W p l e rX9_pattern s m ([.ref (ad 0)] : List Value).toArray below meth c H locs 0 0 Q (F0 m 2 ls []) := by
    intro k hk n
    induction n with
    | zero =>
      intro x1_2 H locs ls h
      rw [lp_X9_pattern_2] at h
      cases h
    | succ n ih =>
      intro x1_2 H locs ls h hP hD hS hl
      rw [lp_X9_pattern_2] at h
      refine lv_iload_n hx hb dX9_pattern_2 rfl (lv_at hl 1 rfl) ?_
      refine lv_bipush (v := 11) hx hb dX9_pattern_3 (by decide) ?_
      refine lv_icmp_ge (tgt := 59) hx hb dX9_pattern_5 (by decide) (fun c1 => ?_) (fun c1 => ?_)
      · replace h := gx_t c1 h
        exact hk _ _ _ h hP hD hS (lv_sub hl [] rfl)
      · replace h := gx_f c1 h
        refine lv_aload_n hx hb dX9_pattern_8 rfl (lv_at hl 0 rfl) ?_
        refine va_get (D := D) (ci := 9) (v := .ref (ad 2)) (C := RX9) (T := TX9) (N := 10) hx hb hts iX9 hown hK hP 0 rfl rfl 2 (by decide) hf23 (fun _ h9 => h9) rfl dX9_pattern_9 ?_
        refine lv_iload_n hx hb dX9_pattern_12 rfl (lv_at hl 1 rfl) ?_
        refine lv_aload_n hx hb dX9_pattern_13 rfl (lv_at hl 0 rfl) ?_
        refine va_get (D := D) (ci := 9) (v := .ref (ad 1)) (C := RX9) (T := TX9) (N := 10) hx hb hts iX9 hown hK hP 0 rfl rfl 1 (by decide) hf16 (fun _ h9 => h9) rfl dX9_pattern_14 ?_
        obtain ⟨y2, hc3, h⟩ := gx_bind h
        refine cc_iV (As := [.int x1_2, .ref (ad 1)]) (rest := []) ⟨hx, hb, hml, hown, hts⟩ (k_X1_beliefAt l D cI cZ ad u x1_2 hc3) (cwV 2 hts (gwV mw_408 mw_409 mw_410 mw_21 mw_411) rfl rfl rfl (by decide +kernel) ⟨Nat.le_of_ble_eq_true rfl, Nat.le_of_ble_eq_true rfl⟩) hK hP hD hS hA hZ (ci := 1) (q0 := 2) rfl rfl rfl hl.1 rfl (Nat.le_of_ble_eq_true rfl) dX9_pattern_17 ⟨Nat.zero_le _, Nat.zero_le _⟩ (fun H locs hP hD hS => ?_)
        refine lv_istore_n (lv' := [(2, .int y2), (0, .ref (ad 0)), (1, .int x1_2)]) hx hb dX9_pattern_20 rfl hl (by decide) rfl (fun ls hl => ?_)
        refine lv_iload_n hx hb dX9_pattern_21 rfl (lv_at hl 0 rfl) ?_
        refine lv_iconst (v := (-1)) hx hb dX9_pattern_22 (by decide) ?_
        obtain ⟨j53_4, ej53_4, h⟩ := gx_let h
        have hj53_4 : ∀ (H : Heap) (locs : List Loc) (ls : Array Slot), j53_4 () = some r → va_P D vwCl (wC cI cZ ad u) H → va_D A (wC cI cZ ad u) → va_S A s.heap H locs → lv_has ls 3 [(0, .ref (ad 0)), (1, .int x1_2)] → W p l e rX9_pattern s m ([.ref (ad 0)] : List Value).toArray below meth c H locs 0 0 Q (F0 m 53 ls []) := by
          intro  H locs ls h hP hD hS hl
          subst ej53_4
          obtain ⟨v5, ev5, h⟩ := gx_let h
          refine lv_iinc (v := v5) (lv' := [(1, .int v5), (0, .ref (ad 0))]) hx hb dX9_pattern_53 hl (k := 1) rfl (by rw [← ev5]; rfl) (by decide) rfl (fun ls hl => ?_)
          refine lv_goto (tgt := 2) hx hb dX9_pattern_56 (by decide) ?_
          exact ih v5 _ _ _ h hP hD hS (lv_sub hl [1, 0] rfl)
        refine lv_icmp_eq (tgt := 53) hx hb dX9_pattern_23 (by decide) (fun c6 => ?_) (fun c6 => ?_)
        · replace h := gx_t c6 h
          exact hj53_4 _ _ _ h hP hD hS (lv_sub hl [1, 2] rfl)
        · replace h := gx_f c6 h
          refine lv_iload_n hx hb dX9_pattern_26 rfl (lv_at hl 0 rfl) ?_
          refine lv_bipush (v := 40) hx hb dX9_pattern_27 (by decide) ?_
          refine lv_icmp_ge (tgt := 53) hx hb dX9_pattern_29 (by decide) (fun c7 => ?_) (fun c7 => ?_)
          · replace h := gx_t c7 h
            exact hj53_4 _ _ _ h hP hD hS (lv_sub hl [1, 2] rfl)
          · replace h := gx_f c7 h
            refine lv_aload_n hx hb dX9_pattern_32 rfl (lv_at hl 1 rfl) ?_
            refine va_get (D := D) (ci := 9) (v := .ref (ad 2)) (C := RX9) (T := TX9) (N := 10) hx hb hts iX9 hown hK hP 0 rfl rfl 2 (by decide) hf23 (fun _ h9 => h9) rfl dX9_pattern_33 ?_
            refine lv_iload_n hx hb dX9_pattern_36 rfl (lv_at hl 2 rfl) ?_
            refine lv_iconst (v := 1) hx hb dX9_pattern_37 (by decide) ?_
            refine lv_iadd hx hb dX9_pattern_38 ?_
            refine lv_aload_n hx hb dX9_pattern_39 rfl (lv_at hl 1 rfl) ?_
            refine va_get (D := D) (ci := 9) (v := .ref (ad 1)) (C := RX9) (T := TX9) (N := 10) hx hb hts iX9 hown hK hP 0 rfl rfl 1 (by decide) hf16 (fun _ h9 => h9) rfl dX9_pattern_40 ?_
            obtain ⟨y8, hc9, h⟩ := gx_bind h
            refine cc_iV (As := [.int (x1_2 + (1 : Int32)), .ref (ad 1)]) (rest := []) ⟨hx, hb, hml, hown, hts⟩ (k_X1_beliefAt l D cI cZ ad u (x1_2 + (1 : Int32)) hc9) (cwV 2 hts (gwV mw_408 mw_409 mw_410 mw_21 mw_411) rfl rfl rfl (by decide +kernel) ⟨Nat.le_of_ble_eq_true rfl, Nat.le_of_ble_eq_true rfl⟩) hK hP hD hS hA hZ (ci := 1) (q0 := 2) rfl rfl rfl hl.1 rfl (Nat.le_of_ble_eq_true rfl) dX9_pattern_43 ⟨Nat.zero_le _, Nat.zero_le _⟩ (fun H locs hP hD hS => ?_)
            refine lv_bipush (v := 80) hx hb dX9_pattern_46 (by decide) ?_
            refine lv_icmp_lt (tgt := 53) hx hb dX9_pattern_48 (by decide) (fun c10 => ?_) (fun c10 => ?_)
            · replace h := gx_t c10 h
              exact hj53_4 _ _ _ h hP hD hS (lv_sub hl [1, 2] rfl)
            · replace h := gx_f c10 h
              refine lv_iload_n hx hb dX9_pattern_51 rfl (lv_at hl 2 rfl) ?_
              cases h
              exact cc_ret hx hb hr rfl hQ hK hP hD hS rfl dX9_pattern_52 hlocks
  refine hL2 _ (fun H locs ls h hP hD hS hl => ?_) FU (0 : Int32) _ _ _ h hP hD hS (lv_sub hl [1, 0] rfl)
  refine lv_iconst (v := (-1)) hx hb dX9_pattern_59 (by decide) ?_
  cases h
  exact cc_ret hx hb hr rfl hQ hK hP hD hS rfl dX9_pattern_60 hlocks
