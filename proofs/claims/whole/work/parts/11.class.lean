def rX6_canOpen : Room := { frames := 1, cells := 0, slots := 0, locals := 22 }
set_option maxHeartbeats 4000000 in
set_option maxRecDepth 100000 in
theorem k_X6_canOpen (l : Launch) (D : va_G) (cI cZ : ClassId) (ad : Nat → Nat) (u : GS) (p0 : Int32) (p1 : Int32) (p2 : Int32) {r : Int32} (h : g_X6_canOpen u p0 p1 p2 = some r) : MI l yX6_canOpen (wm yX6_canOpen cX6_canOpen 5 (some .boolean)) rX6_canOpen D [(cI, .int), (cZ, .boolean)] (wC cI cZ ad u) (wC cI cZ ad u) [.ref (ad 5), .int p0, .int p1, .int p2] r := by
  intro sz
  refine Met.ofW (cc := cX6_canOpen) (maxL := 5) (ret := (some .boolean)) (by decide) rfl ?_
  intro p e s m args below meth c s₁ B hml hv
  obtain ⟨rfl, hsz, hP, hK, hD0, hZ⟩ := hv
  have hx := B.exec
  have hb := B.bytes
  have hr := B.returns
  have hts : ∀ w ∈ Wall, w.before _ s = true := fun w hw => atoms_spec (ws := wm yX6_canOpen cX6_canOpen 5 (some .boolean)) B.pre w (List.mem_cons_of_mem _ hw)
  have hown : s.vm.findClass RX6 = some m.cls := findClass_of_methodNamed B.named
  have hlocks := B.notSynchronized
  subst hsz
  have hD := hD0.self (sz := s.heap.size)
  generalize hAe : va_A (wC cI cZ ad u) s.heap.size = A at hD hZ ⊢
  have hA : ∀ q : Nat, s.heap.size ≤ q → A q := fun q h => by rw [← hAe]; exact Or.inr h
  have hS : va_S A s.heap s.heap [] := va_S.rf
  have hf15 := hts _ mw_173
  have hl := lv_entry ([.ref (ad 5), .int p0, .int p1, .int p2]) (n := 5) (Nat.le_of_ble_eq_true rfl)
  rw [lg_entry_eq]
  generalize (lg_sl ([.ref (ad 5), .int p0, .int p1, .int p2]) ++ List.replicate (5 - (lg_sl ([.ref (ad 5), .int p0, .int p1, .int p2])).length) Slot.unset).toArray = ls at hl ⊢
  replace hl : lv_has ls 5 [(0, .ref (ad 5)), (1, .int p0), (2, .int p1), (3, .int p2)] := hl
  refine w_gen (fun Q hQ => ?_)
  refine lv_iconst (v := 0) hx hb dX6_canOpen_0 (by decide) ?_
  refine lv_istore (lv' := [(4, .int (0 : Int32)), (0, .ref (ad 5)), (1, .int p0), (2, .int p1), (3, .int p2)]) hx hb dX6_canOpen_1 hl (by decide) rfl (fun ls hl => ?_)
  have hL3 : ∀ (k : Unit → Option (Int32)) (hk : ∀ (H : Heap) (locs : List Loc) (ls : Array Slot), k () = some r → va_P D vwCl (wC cI cZ ad u) H → va_D A (wC cI cZ ad u) → va_S A s.heap H locs → lv_has ls 5 [] → W p l e rX6_canOpen s m ([.ref (ad 5), .int p0, .int p1, .int p2] : List Value).toArray below meth c H locs 0 0 Q (F0 m 41 ls [])) (n : Nat) (x4_3 : Int32) (H : Heap) (locs : List Loc) (ls : Array Slot), lp_X6_canOpen_3 u p0 p1 p2 k n x4_3 = some r → va_P D vwCl (wC cI cZ ad u) H → va_D A (wC cI cZ ad u) → va_S A s.heap H locs → lv_has ls 5 [(0, .ref (ad 5)), (1, .int p0), (2, .int p1), (3, .int p2), (4, .int x4_3)] → W p l e rX6_canOpen s m ([.ref (ad 5), .int p0, .int p1, .int p2] : List Value).toArray below meth c H locs 0 0 Q (F0 m 3 ls []) := by
    intro k hk n
    induction n with
    | zero =>
      intro x4_3 H locs ls h
      rw [lp_X6_canOpen_3] at h
      cases h
    | succ n ih =>
      intro x4_3 H locs ls h hP hD hS hl
      rw [lp_X6_canOpen_3] at h
      refine lv_iload hx hb dX6_canOpen_3 (lv_at hl 4 rfl) ?_
      refine lv_bipush (v := 12) hx hb dX6_canOpen_5 (by decide) ?_
      refine lv_icmp_ge (tgt := 41) hx hb dX6_canOpen_7 (by decide) (fun c1 => ?_) (fun c1 => ?_)
      · replace h := gx_t c1 h
        exact hk _ _ _ h hP hD hS (lv_sub hl [] rfl)
      · replace h := gx_f c1 h
        refine lv_iload hx hb dX6_canOpen_10 (lv_at hl 4 rfl) ?_
        refine lv_iload_n hx hb dX6_canOpen_12 rfl (lv_at hl 1 rfl) ?_
        refine lv_iload_n hx hb dX6_canOpen_13 rfl (lv_at hl 2 rfl) ?_
        obtain ⟨y2, hc3, h⟩ := gx_bind h
        refine cc_iSN (As := [.int x4_3, .int p0, .int p1]) (rest := []) ⟨hx, hb, hml, hown, hts⟩ (k_X9_isWithin l D cI cZ ad u x4_3 p0 p1 hc3) ⟨va_cnB 3 hts (gwM mw_274) rfl rfl rfl (hZ.1 ("RedcrossGantry$Shoulder", 19, yX9_isWithin) (by decide +kernel)) (hts _ mw_48) (by decide +kernel) ⟨Nat.le_of_ble_eq_true rfl, Nat.le_of_ble_eq_true rfl⟩, hts _ mw_273, trivial⟩ hK hP hD hS hA hZ rfl hl.1 rfl (Nat.le_of_ble_eq_true rfl) dX6_canOpen_14 ⟨Nat.zero_le _, Nat.zero_le _⟩ (fun H locs hP hD hS => ?_)
        obtain ⟨j35_4, ej35_4, h⟩ := gx_let h
        have hj35_4 : ∀ (H : Heap) (locs : List Loc) (ls : Array Slot), j35_4 () = some r → va_P D vwCl (wC cI cZ ad u) H → va_D A (wC cI cZ ad u) → va_S A s.heap H locs → lv_has ls 5 [(0, .ref (ad 5)), (1, .int p0), (2, .int p1), (3, .int p2), (4, .int x4_3)] → W p l e rX6_canOpen s m ([.ref (ad 5), .int p0, .int p1, .int p2] : List Value).toArray below meth c H locs 0 0 Q (F0 m 35 ls []) := by
          intro  H locs ls h hP hD hS hl
          subst ej35_4
          obtain ⟨v5, ev5, h⟩ := gx_let h
          refine lv_iinc (v := v5) (lv' := [(4, .int v5), (0, .ref (ad 5)), (1, .int p0), (2, .int p1), (3, .int p2)]) hx hb dX6_canOpen_35 hl (k := 4) rfl (by rw [← ev5]; rfl) (by decide) rfl (fun ls hl => ?_)
          refine lv_goto (tgt := 3) hx hb dX6_canOpen_38 (by decide) ?_
          exact ih v5 _ _ _ h hP hD hS (lv_sub hl [1, 2, 3, 4, 0] rfl)
        refine lv_if_eq (tgt := 35) hx hb dX6_canOpen_17 (by decide) (fun c6 => ?_) (fun c6 => ?_)
        · replace h := gx_t c6 h
          exact hj35_4 _ _ _ h hP hD hS (lv_sub hl [0, 1, 2, 3, 4] rfl)
        · replace h := gx_f c6 h
          refine lv_iload_n hx hb dX6_canOpen_20 rfl (lv_at hl 3 rfl) ?_
          refine lv_aload_n hx hb dX6_canOpen_21 rfl (lv_at hl 0 rfl) ?_
          refine va_get (D := D) (ci := 6) (v := .ref (ad 22)) (C := RX6) (T := TX6) (N := 2) hx hb hts iX6 hown hK hP 5 rfl rfl 1 (by decide) hf15 (fun _ h9 => h9) rfl dX6_canOpen_22 ?_
          refine lv_iload hx hb dX6_canOpen_25 (lv_at hl 4 rfl) ?_
          obtain ⟨b7, h⟩ := gx_in h
          refine va_iald (D := D) hx hb hK hP 22 0 rfl rfl b7 dX6_canOpen_27 ?_
          refine lv_isub hx hb dX6_canOpen_28 ?_
          refine lv_iconst (v := 5) hx hb dX6_canOpen_29 (by decide) ?_
          refine lv_icmp_lt (tgt := 35) hx hb dX6_canOpen_30 (by decide) (fun c8 => ?_) (fun c8 => ?_)
          · replace h := gx_t c8 h
            exact hj35_4 _ _ _ h hP hD hS (lv_sub hl [0, 1, 2, 3, 4] rfl)
          · replace h := gx_f c8 h
            refine lv_iconst (v := 0) hx hb dX6_canOpen_33 (by decide) ?_
            cases h
            exact cc_ret hx hb hr rfl hQ hK hP hD hS rfl dX6_canOpen_34 hlocks
  refine hL3 _ (fun H locs ls h hP hD hS hl => ?_) FU (0 : Int32) _ _ _ h hP hD hS (lv_sub hl [1, 2, 3, 4, 0] rfl)
  refine lv_iconst (v := 1) hx hb dX6_canOpen_41 (by decide) ?_
  cases h
  exact cc_ret hx hb hr rfl hQ hK hP hD hS rfl dX6_canOpen_42 hlocks

def rX6_openAll : Room := { frames := 1, cells := 0, slots := 0, locals := 22 }
set_option maxHeartbeats 4000000 in
set_option maxRecDepth 100000 in
theorem k_X6_openAll (l : Launch) (D : va_G) (cI cZ : ClassId) (ad : Nat → Nat) (u : GS) (p0 : Int32) (p1 : Int32) {r : Int32} {w' : GS} (h : g_X6_openAll u p0 p1 = some (r, w')) : MI l yX6_openAll (wm yX6_openAll cX6_openAll 5 (some .int)) rX6_openAll D [(cI, .int), (cZ, .boolean)] (wC cI cZ ad u) (wC cI cZ ad w') [.ref (ad 5), .int p0, .int p1] r := by
  intro sz
  refine Met.ofW (cc := cX6_openAll) (maxL := 5) (ret := (some .int)) (by decide) rfl ?_
  intro p e s m args below meth c s₁ B hml hv
  obtain ⟨rfl, hsz, hP, hK, hD0, hZ⟩ := hv
  have hx := B.exec
  have hb := B.bytes
  have hr := B.returns
  have hts : ∀ w ∈ Wall, w.before _ s = true := fun w hw => atoms_spec (ws := wm yX6_openAll cX6_openAll 5 (some .int)) B.pre w (List.mem_cons_of_mem _ hw)
  have hown : s.vm.findClass RX6 = some m.cls := findClass_of_methodNamed B.named
  have hlocks := B.notSynchronized
  subst hsz
  have hD := hD0.self (sz := s.heap.size)
  generalize hAe : va_A (wC cI cZ ad u) s.heap.size = A at hD hZ ⊢
  have hA : ∀ q : Nat, s.heap.size ≤ q → A q := fun q h => by rw [← hAe]; exact Or.inr h
  have hS : va_S A s.heap s.heap [] := va_S.rf
  have hf9 := hts _ mw_172
  have hl := lv_entry ([.ref (ad 5), .int p0, .int p1]) (n := 5) (Nat.le_of_ble_eq_true rfl)
  rw [lg_entry_eq]
  generalize (lg_sl ([.ref (ad 5), .int p0, .int p1]) ++ List.replicate (5 - (lg_sl ([.ref (ad 5), .int p0, .int p1])).length) Slot.unset).toArray = ls at hl ⊢
  replace hl : lv_has ls 5 [(0, .ref (ad 5)), (1, .int p0), (2, .int p1)] := hl
  refine w_gen (fun Q hQ => ?_)
  refine lv_iconst (v := 0) hx hb dX6_openAll_0 (by decide) ?_
  refine lv_istore_n (lv' := [(3, .int (0 : Int32)), (0, .ref (ad 5)), (1, .int p0), (2, .int p1)]) hx hb dX6_openAll_1 rfl hl (by decide) rfl (fun ls hl => ?_)
  refine lv_iconst (v := 0) hx hb dX6_openAll_2 (by decide) ?_
  refine lv_istore (lv' := [(4, .int (0 : Int32)), (3, .int (0 : Int32)), (0, .ref (ad 5)), (1, .int p0), (2, .int p1)]) hx hb dX6_openAll_3 hl (by decide) rfl (fun ls hl => ?_)
  have hL5 : ∀ (k : Int32 → GS → Option (Int32 × GS)) (hk : ∀ (x3_5 : Int32) (w5 : GS) (H : Heap) (locs : List Loc) (ls : Array Slot), k x3_5 w5 = some (r, w') → va_P D vwCl (wC cI cZ ad w5) H → va_D A (wC cI cZ ad w5) → va_S A s.heap H locs → lv_has ls 5 [(3, .int x3_5)] → W p l e rX6_openAll s m ([.ref (ad 5), .int p0, .int p1] : List Value).toArray below meth c H locs 0 0 Q (F0 m 49 ls [])) (n : Nat) (x3_5 : Int32) (x4_5 : Int32) (w5 : GS) (H : Heap) (locs : List Loc) (ls : Array Slot), lp_X6_openAll_5 p0 p1 k n x3_5 x4_5 w5 = some (r, w') → va_P D vwCl (wC cI cZ ad w5) H → va_D A (wC cI cZ ad w5) → va_S A s.heap H locs → lv_has ls 5 [(0, .ref (ad 5)), (1, .int p0), (2, .int p1), (3, .int x3_5), (4, .int x4_5)] → W p l e rX6_openAll s m ([.ref (ad 5), .int p0, .int p1] : List Value).toArray below meth c H locs 0 0 Q (F0 m 5 ls []) := by
    intro k hk n
    induction n with
    | zero =>
      intro x3_5 x4_5 w5 H locs ls h
      rw [lp_X6_openAll_5] at h
      cases h
    | succ n ih =>
      intro x3_5 x4_5 w5 H locs ls h hP hD hS hl
      rw [lp_X6_openAll_5] at h
      refine lv_iload hx hb dX6_openAll_5 (lv_at hl 4 rfl) ?_
      refine lv_bipush (v := 12) hx hb dX6_openAll_7 (by decide) ?_
      refine lv_icmp_ge (tgt := 49) hx hb dX6_openAll_9 (by decide) (fun c1 => ?_) (fun c1 => ?_)
      · replace h := gx_t c1 h
        exact hk x3_5 w5 _ _ _ h hP hD hS (lv_sub hl [3] rfl)
      · replace h := gx_f c1 h
        refine lv_iload hx hb dX6_openAll_12 (lv_at hl 4 rfl) ?_
        refine lv_iload_n hx hb dX6_openAll_14 rfl (lv_at hl 1 rfl) ?_
        refine lv_iload_n hx hb dX6_openAll_15 rfl (lv_at hl 2 rfl) ?_
        obtain ⟨y2, hc3, h⟩ := gx_bind h
        refine cc_iSN (As := [.int x4_5, .int p0, .int p1]) (rest := []) ⟨hx, hb, hml, hown, hts⟩ (k_X9_isWithin l D cI cZ ad w5 x4_5 p0 p1 hc3) ⟨va_cnB 3 hts (gwM mw_274) rfl rfl rfl (hZ.1 ("RedcrossGantry$Shoulder", 19, yX9_isWithin) (by decide +kernel)) (hts _ mw_48) (by decide +kernel) ⟨Nat.le_of_ble_eq_true rfl, Nat.le_of_ble_eq_true rfl⟩, hts _ mw_273, trivial⟩ hK hP hD hS hA hZ rfl hl.1 rfl (Nat.le_of_ble_eq_true rfl) dX6_openAll_16 ⟨Nat.zero_le _, Nat.zero_le _⟩ (fun H locs hP hD hS => ?_)
        obtain ⟨j43_4, ej43_4, h⟩ := gx_let h
        have hj43_4 : ∀ (x3_43 : Int32) (w43 : GS) (H : Heap) (locs : List Loc) (ls : Array Slot), j43_4 x3_43 w43 = some (r, w') → va_P D vwCl (wC cI cZ ad w43) H → va_D A (wC cI cZ ad w43) → va_S A s.heap H locs → lv_has ls 5 [(0, .ref (ad 5)), (1, .int p0), (2, .int p1), (3, .int x3_43), (4, .int x4_5)] → W p l e rX6_openAll s m ([.ref (ad 5), .int p0, .int p1] : List Value).toArray below meth c H locs 0 0 Q (F0 m 43 ls []) := by
          intro x3_43 w43 H locs ls h hP hD hS hl
          subst ej43_4
          obtain ⟨v5, ev5, h⟩ := gx_let h
          refine lv_iinc (v := v5) (lv' := [(4, .int v5), (0, .ref (ad 5)), (1, .int p0), (2, .int p1), (3, .int x3_43)]) hx hb dX6_openAll_43 hl (k := 4) rfl (by rw [← ev5]; rfl) (by decide) rfl (fun ls hl => ?_)
          refine lv_goto (tgt := 5) hx hb dX6_openAll_46 (by decide) ?_
          exact ih x3_43 v5 w43 _ _ _ h hP hD hS (lv_sub hl [1, 2, 3, 4, 0] rfl)
        refine lv_if_eq (tgt := 43) hx hb dX6_openAll_19 (by decide) (fun c6 => ?_) (fun c6 => ?_)
        · replace h := gx_t c6 h
          exact hj43_4 x3_5 w5 _ _ _ h hP hD hS (lv_sub hl [0, 1, 2, 3, 4] rfl)
        · replace h := gx_f c6 h
          refine lv_aload_n hx hb dX6_openAll_22 rfl (lv_at hl 0 rfl) ?_
          refine va_get (D := D) (ci := 6) (v := .ref (ad 21)) (C := RX6) (T := TX6) (N := 2) hx hb hts iX6 hown hK hP 5 rfl rfl 0 (by decide) hf9 (fun _ h9 => h9) rfl dX6_openAll_23 ?_
          refine lv_iload hx hb dX6_openAll_26 (lv_at hl 4 rfl) ?_
          obtain ⟨b7, h⟩ := gx_in h
          refine va_zald (D := D) hx hb hK hP 21 1 rfl rfl b7 dX6_openAll_28 ?_
          refine lv_if_ne (tgt := 43) hx hb dX6_openAll_29 (by decide) (fun c8 => ?_) (fun c8 => ?_)
          · replace h := gx_f c8 h
            exact hj43_4 x3_5 w5 _ _ _ h hP hD hS (lv_sub hl [0, 1, 2, 3, 4] rfl)
          · replace h := gx_t c8 h
            refine lv_aload_n hx hb dX6_openAll_32 rfl (lv_at hl 0 rfl) ?_
            refine va_get (D := D) (ci := 6) (v := .ref (ad 21)) (C := RX6) (T := TX6) (N := 2) hx hb hts iX6 hown hK hP 5 rfl rfl 0 (by decide) hf9 (fun _ h9 => h9) rfl dX6_openAll_33 ?_
            refine lv_iload hx hb dX6_openAll_36 (lv_at hl 4 rfl) ?_
            refine lv_iconst (v := 1) hx hb dX6_openAll_38 (by decide) ?_
            obtain ⟨b9, h⟩ := gx_in h
            refine va_zast (D := D) hx hb hK hP hD hS 21 1 rfl rfl b9 dX6_openAll_39 (fun H locs hP hD hS => ?_)
            obtain ⟨u10, eu10, h⟩ := gx_let h
            replace hP : va_P D vwCl (wC cI cZ ad u10) H := by rw [← eu10]; exact hP
            replace hD : va_D A (wC cI cZ ad u10) := by rw [← eu10]; exact hD
            obtain ⟨v11, ev11, h⟩ := gx_let h
            refine lv_iinc (v := v11) (lv' := [(3, .int v11), (0, .ref (ad 5)), (1, .int p0), (2, .int p1), (4, .int x4_5)]) hx hb dX6_openAll_40 hl (k := 3) rfl (by rw [← ev11]; rfl) (by decide) rfl (fun ls hl => ?_)
            exact hj43_4 v11 u10 _ _ _ h hP hD hS (lv_sub hl [1, 2, 3, 0, 4] rfl)
  refine hL5 _ (fun x3_5 w5 H locs ls h hP hD hS hl => ?_) FU (0 : Int32) (0 : Int32) u _ _ _ h hP hD hS (lv_sub hl [2, 3, 4, 1, 0] rfl)
  refine lv_iload_n hx hb dX6_openAll_49 rfl (lv_at hl 0 rfl) ?_
  cases h
  exact cc_ret hx hb hr rfl hQ hK hP hD hS rfl dX6_openAll_50 hlocks

def rX6_shutAll : Room := { frames := 0, cells := 0, slots := 0, locals := 0 }
set_option maxHeartbeats 4000000 in
set_option maxRecDepth 100000 in
theorem k_X6_shutAll (l : Launch) (D : va_G) (cI cZ : ClassId) (ad : Nat → Nat) (u : GS) {r : Int32} {w' : GS} (h : g_X6_shutAll u = some (r, w')) : MI l yX6_shutAll (wm yX6_shutAll cX6_shutAll 3 (some .int)) rX6_shutAll D [(cI, .int), (cZ, .boolean)] (wC cI cZ ad u) (wC cI cZ ad w') [.ref (ad 5)] r := by
  intro sz
  refine Met.ofW (cc := cX6_shutAll) (maxL := 3) (ret := (some .int)) (by decide) rfl ?_
  intro p e s m args below meth c s₁ B hml hv
  obtain ⟨rfl, hsz, hP, hK, hD0, hZ⟩ := hv
  have hx := B.exec
  have hb := B.bytes
  have hr := B.returns
  have hts : ∀ w ∈ Wall, w.before _ s = true := fun w hw => atoms_spec (ws := wm yX6_shutAll cX6_shutAll 3 (some .int)) B.pre w (List.mem_cons_of_mem _ hw)
  have hown : s.vm.findClass RX6 = some m.cls := findClass_of_methodNamed B.named
  have hlocks := B.notSynchronized
  subst hsz
  have hD := hD0.self (sz := s.heap.size)
  generalize hAe : va_A (wC cI cZ ad u) s.heap.size = A at hD hZ ⊢
  have hA : ∀ q : Nat, s.heap.size ≤ q → A q := fun q h => by rw [← hAe]; exact Or.inr h
  have hS : va_S A s.heap s.heap [] := va_S.rf
  have hf9 := hts _ mw_172
  have hl := lv_entry ([.ref (ad 5)]) (n := 3) (Nat.le_of_ble_eq_true rfl)
  rw [lg_entry_eq]
  generalize (lg_sl ([.ref (ad 5)]) ++ List.replicate (3 - (lg_sl ([.ref (ad 5)])).length) Slot.unset).toArray = ls at hl ⊢
  replace hl : lv_has ls 3 [(0, .ref (ad 5))] := hl
  refine w_gen (fun Q hQ => ?_)
  refine lv_iconst (v := 0) hx hb dX6_shutAll_0 (by decide) ?_
  refine lv_istore_n (lv' := [(1, .int (0 : Int32)), (0, .ref (ad 5))]) hx hb dX6_shutAll_1 rfl hl (by decide) rfl (fun ls hl => ?_)
  refine lv_iconst (v := 0) hx hb dX6_shutAll_2 (by decide) ?_
  refine lv_istore_n (lv' := [(2, .int (0 : Int32)), (1, .int (0 : Int32)), (0, .ref (ad 5))]) hx hb dX6_shutAll_3 rfl hl (by decide) rfl (fun ls hl => ?_)
  have hL4 : ∀ (k : Int32 → GS → Option (Int32 × GS)) (hk : ∀ (x1_4 : Int32) (w4 : GS) (H : Heap) (locs : List Loc) (ls : Array Slot), k x1_4 w4 = some (r, w') → va_P D vwCl (wC cI cZ ad w4) H → va_D A (wC cI cZ ad w4) → va_S A s.heap H locs → lv_has ls 3 [(1, .int x1_4)] → W p l e rX6_shutAll s m ([.ref (ad 5)] : List Value).toArray below meth c H locs 0 0 Q (F0 m 35 ls [])) (n : Nat) (x1_4 : Int32) (x2_4 : Int32) (w4 : GS) (H : Heap) (locs : List Loc) (ls : Array Slot), lp_X6_shutAll_4 k n x1_4 x2_4 w4 = some (r, w') → va_P D vwCl (wC cI cZ ad w4) H → va_D A (wC cI cZ ad w4) → va_S A s.heap H locs → lv_has ls 3 [(0, .ref (ad 5)), (1, .int x1_4), (2, .int x2_4)] → W p l e rX6_shutAll s m ([.ref (ad 5)] : List Value).toArray below meth c H locs 0 0 Q (F0 m 4 ls []) := by
    intro k hk n
    induction n with
    | zero =>
      intro x1_4 x2_4 w4 H locs ls h
      rw [lp_X6_shutAll_4] at h
      cases h
    | succ n ih =>
      intro x1_4 x2_4 w4 H locs ls h hP hD hS hl
      rw [lp_X6_shutAll_4] at h
      refine lv_iload_n hx hb dX6_shutAll_4 rfl (lv_at hl 2 rfl) ?_
      refine lv_bipush (v := 12) hx hb dX6_shutAll_5 (by decide) ?_
      refine lv_icmp_ge (tgt := 35) hx hb dX6_shutAll_7 (by decide) (fun c1 => ?_) (fun c1 => ?_)
      · replace h := gx_t c1 h
        exact hk x1_4 w4 _ _ _ h hP hD hS (lv_sub hl [1] rfl)
      · replace h := gx_f c1 h
        refine lv_aload_n hx hb dX6_shutAll_10 rfl (lv_at hl 0 rfl) ?_
        refine va_get (D := D) (ci := 6) (v := .ref (ad 21)) (C := RX6) (T := TX6) (N := 2) hx hb hts iX6 hown hK hP 5 rfl rfl 0 (by decide) hf9 (fun _ h9 => h9) rfl dX6_shutAll_11 ?_
        refine lv_iload_n hx hb dX6_shutAll_14 rfl (lv_at hl 2 rfl) ?_
        obtain ⟨b2, h⟩ := gx_in h
        refine va_zald (D := D) hx hb hK hP 21 1 rfl rfl b2 dX6_shutAll_15 ?_
        obtain ⟨j29_3, ej29_3, h⟩ := gx_let h
        have hj29_3 : ∀ (x1_29 : Int32) (w29 : GS) (H : Heap) (locs : List Loc) (ls : Array Slot), j29_3 x1_29 w29 = some (r, w') → va_P D vwCl (wC cI cZ ad w29) H → va_D A (wC cI cZ ad w29) → va_S A s.heap H locs → lv_has ls 3 [(0, .ref (ad 5)), (1, .int x1_29), (2, .int x2_4)] → W p l e rX6_shutAll s m ([.ref (ad 5)] : List Value).toArray below meth c H locs 0 0 Q (F0 m 29 ls []) := by
          intro x1_29 w29 H locs ls h hP hD hS hl
          subst ej29_3
          obtain ⟨v4, ev4, h⟩ := gx_let h
          refine lv_iinc (v := v4) (lv' := [(2, .int v4), (0, .ref (ad 5)), (1, .int x1_29)]) hx hb dX6_shutAll_29 hl (k := 2) rfl (by rw [← ev4]; rfl) (by decide) rfl (fun ls hl => ?_)
          refine lv_goto (tgt := 4) hx hb dX6_shutAll_32 (by decide) ?_
          exact ih x1_29 v4 w29 _ _ _ h hP hD hS (lv_sub hl [1, 2, 0] rfl)
        refine lv_if_eq (tgt := 29) hx hb dX6_shutAll_16 (by decide) (fun c5 => ?_) (fun c5 => ?_)
        · replace h := gx_t c5 h
          exact hj29_3 x1_4 w4 _ _ _ h hP hD hS (lv_sub hl [0, 1, 2] rfl)
        · replace h := gx_f c5 h
          refine lv_aload_n hx hb dX6_shutAll_19 rfl (lv_at hl 0 rfl) ?_
          refine va_get (D := D) (ci := 6) (v := .ref (ad 21)) (C := RX6) (T := TX6) (N := 2) hx hb hts iX6 hown hK hP 5 rfl rfl 0 (by decide) hf9 (fun _ h9 => h9) rfl dX6_shutAll_20 ?_
          refine lv_iload_n hx hb dX6_shutAll_23 rfl (lv_at hl 2 rfl) ?_
          refine lv_iconst (v := 0) hx hb dX6_shutAll_24 (by decide) ?_
          obtain ⟨b6, h⟩ := gx_in h
          refine va_zast (D := D) hx hb hK hP hD hS 21 1 rfl rfl b6 dX6_shutAll_25 (fun H locs hP hD hS => ?_)
          obtain ⟨u7, eu7, h⟩ := gx_let h
          replace hP : va_P D vwCl (wC cI cZ ad u7) H := by rw [← eu7]; exact hP
          replace hD : va_D A (wC cI cZ ad u7) := by rw [← eu7]; exact hD
          obtain ⟨v8, ev8, h⟩ := gx_let h
          refine lv_iinc (v := v8) (lv' := [(1, .int v8), (0, .ref (ad 5)), (2, .int x2_4)]) hx hb dX6_shutAll_26 hl (k := 1) rfl (by rw [← ev8]; rfl) (by decide) rfl (fun ls hl => ?_)
          exact hj29_3 v8 u7 _ _ _ h hP hD hS (lv_sub hl [1, 0, 2] rfl)
  refine hL4 _ (fun x1_4 w4 H locs ls h hP hD hS hl => ?_) FU (0 : Int32) (0 : Int32) u _ _ _ h hP hD hS (lv_sub hl [2, 1, 0] rfl)
  refine lv_iload_n hx hb dX6_shutAll_35 rfl (lv_at hl 0 rfl) ?_
  cases h
  exact cc_ret hx hb hr rfl hQ hK hP hD hS rfl dX6_shutAll_36 hlocks

def rX7_wantBy : Room := { frames := 0, cells := 0, slots := 0, locals := 0 }
set_option maxHeartbeats 4000000 in
set_option maxRecDepth 100000 in
theorem k_X7_wantBy (l : Launch) (D : va_G) (cI cZ : ClassId) (ad : Nat → Nat) (u : GS) (p0 : Int32) {r : Int32} (h : g_X7_wantBy p0 = some r) : MI l yX7_wantBy (wm yX7_wantBy cX7_wantBy 1 (some .int)) rX7_wantBy D [(cI, .int), (cZ, .boolean)] (wC cI cZ ad u) (wC cI cZ ad u) [.int p0] r := by
  intro sz
  refine Met.ofW (cc := cX7_wantBy) (maxL := 1) (ret := (some .int)) (by decide) rfl ?_
  intro p e s m args below meth c s₁ B hml hv
  obtain ⟨rfl, hsz, hP, hK, hD0, hZ⟩ := hv
  have hx := B.exec
  have hb := B.bytes
  have hr := B.returns
  have hts : ∀ w ∈ Wall, w.before _ s = true := fun w hw => atoms_spec (ws := wm yX7_wantBy cX7_wantBy 1 (some .int)) B.pre w (List.mem_cons_of_mem _ hw)
  have hown : s.vm.findClass RX7 = some m.cls := findClass_of_methodNamed B.named
  have hlocks := B.notSynchronized
  subst hsz
  have hD := hD0.self (sz := s.heap.size)
  generalize hAe : va_A (wC cI cZ ad u) s.heap.size = A at hD hZ ⊢
  have hA : ∀ q : Nat, s.heap.size ≤ q → A q := fun q h => by rw [← hAe]; exact Or.inr h
  have hS : va_S A s.heap s.heap [] := va_S.rf
  have hl := lv_entry ([.int p0]) (n := 1) (Nat.le_of_ble_eq_true rfl)
  rw [lg_entry_eq]
  generalize (lg_sl ([.int p0]) ++ List.replicate (1 - (lg_sl ([.int p0])).length) Slot.unset).toArray = ls at hl ⊢
  replace hl : lv_has ls 1 [(0, .int p0)] := hl
  refine w_gen (fun Q hQ => ?_)
  refine lv_iload_n hx hb dX7_wantBy_0 rfl (lv_at hl 0 rfl) ?_
  refine lv_iconst (v := (-1)) hx hb dX7_wantBy_1 (by decide) ?_
  refine lv_icmp_ne (tgt := 8) hx hb dX7_wantBy_2 (by decide) (fun c1 => ?_) (fun c1 => ?_)
  · replace h := gx_f c1 h
    refine lv_iload_n hx hb dX7_wantBy_8 rfl (lv_at hl 0 rfl) ?_
    refine lv_bipush (v := 40) hx hb dX7_wantBy_9 (by decide) ?_
    refine lv_icmp_ge (tgt := 17) hx hb dX7_wantBy_11 (by decide) (fun c2 => ?_) (fun c2 => ?_)
    · replace h := gx_t c2 h
      refine lv_iload_n hx hb dX7_wantBy_17 rfl (lv_at hl 0 rfl) ?_
      refine lv_bipush (v := 60) hx hb dX7_wantBy_18 (by decide) ?_
      refine lv_icmp_ge (tgt := 26) hx hb dX7_wantBy_20 (by decide) (fun c3 => ?_) (fun c3 => ?_)
      · replace h := gx_t c3 h
        refine lv_iload_n hx hb dX7_wantBy_26 rfl (lv_at hl 0 rfl) ?_
        refine lv_bipush (v := 80) hx hb dX7_wantBy_27 (by decide) ?_
        refine lv_icmp_ge (tgt := 37) hx hb dX7_wantBy_29 (by decide) (fun c4 => ?_) (fun c4 => ?_)
        · replace h := gx_t c4 h
          refine lv_bipush (v := 120) hx hb dX7_wantBy_37 (by decide) ?_
          cases h
          exact cc_ret hx hb hr rfl hQ hK hP hD hS rfl dX7_wantBy_39 hlocks
        · replace h := gx_f c4 h
          refine lv_bipush (v := 80) hx hb dX7_wantBy_32 (by decide) ?_
          refine lv_goto (tgt := 39) hx hb dX7_wantBy_34 (by decide) ?_
          cases h
          exact cc_ret hx hb hr rfl hQ hK hP hD hS rfl dX7_wantBy_39 hlocks
      · replace h := gx_f c3 h
        refine lv_bipush (v := 60) hx hb dX7_wantBy_23 (by decide) ?_
        cases h
        exact cc_ret hx hb hr rfl hQ hK hP hD hS rfl dX7_wantBy_25 hlocks
    · replace h := gx_f c2 h
      refine lv_bipush (v := 40) hx hb dX7_wantBy_14 (by decide) ?_
      cases h
      exact cc_ret hx hb hr rfl hQ hK hP hD hS rfl dX7_wantBy_16 hlocks
  · replace h := gx_t c1 h
    refine lv_bipush (v := 60) hx hb dX7_wantBy_5 (by decide) ?_
    cases h
    exact cc_ret hx hb hr rfl hQ hK hP hD hS rfl dX7_wantBy_7 hlocks

def rX7_wantAt : Room := { frames := 1, cells := 0, slots := 0, locals := 22 }
set_option maxHeartbeats 4000000 in
set_option maxRecDepth 100000 in
theorem k_X7_wantAt (l : Launch) (D : va_G) (cI cZ : ClassId) (ad : Nat → Nat) (u : GS) (p0 : Int32) (p1 : Int32) {r : Int32} (h : g_X7_wantAt u p0 p1 = some r) : MI l yX7_wantAt (wm yX7_wantAt cX7_wantAt 4 (some .int)) rX7_wantAt D [(cI, .int), (cZ, .boolean)] (wC cI cZ ad u) (wC cI cZ ad u) [.ref (ad 3), .int p0, .int p1] r := by
  intro sz
  refine Met.ofW (cc := cX7_wantAt) (maxL := 4) (ret := (some .int)) (by decide) rfl ?_
  intro p e s m args below meth c s₁ B hml hv
  obtain ⟨rfl, hsz, hP, hK, hD0, hZ⟩ := hv
  have hx := B.exec
  have hb := B.bytes
  have hr := B.returns
  have hts : ∀ w ∈ Wall, w.before _ s = true := fun w hw => atoms_spec (ws := wm yX7_wantAt cX7_wantAt 4 (some .int)) B.pre w (List.mem_cons_of_mem _ hw)
  have hown : s.vm.findClass RX7 = some m.cls := findClass_of_methodNamed B.named
  have hlocks := B.notSynchronized
  subst hsz
  have hD := hD0.self (sz := s.heap.size)
  generalize hAe : va_A (wC cI cZ ad u) s.heap.size = A at hD hZ ⊢
  have hA : ∀ q : Nat, s.heap.size ≤ q → A q := fun q h => by rw [← hAe]; exact Or.inr h
  have hS : va_S A s.heap s.heap [] := va_S.rf
  obtain ⟨t3, hz_t3, ht_t3⟩ := hZ.2.2.2.1
  have hf9 := hts _ mw_132
  have hf21 := hts _ mw_137
  have hf47 := hts _ mw_574
  have hl := lv_entry ([.ref (ad 3), .int p0, .int p1]) (n := 4) (Nat.le_of_ble_eq_true rfl)
  rw [lg_entry_eq]
  generalize (lg_sl ([.ref (ad 3), .int p0, .int p1]) ++ List.replicate (4 - (lg_sl ([.ref (ad 3), .int p0, .int p1])).length) Slot.unset).toArray = ls at hl ⊢
  replace hl : lv_has ls 4 [(0, .ref (ad 3)), (1, .int p0), (2, .int p1)] := hl
  refine w_gen (fun Q hQ => ?_)
  refine lv_aload_n hx hb dX7_wantAt_0 rfl (lv_at hl 0 rfl) ?_
  refine va_get (D := D) (ci := 7) (v := .ref (ad 15)) (C := RX7) (T := TX7) (N := 4) hx hb hts iX7 hown hK hP 3 rfl rfl 0 (by decide) hf9 (fun _ h9 => h9) rfl dX7_wantAt_1 ?_
  refine lv_iload_n hx hb dX7_wantAt_4 rfl (lv_at hl 1 rfl) ?_
  obtain ⟨b1, h⟩ := gx_in h
  refine va_iald (D := D) hx hb hK hP 15 0 rfl rfl b1 dX7_wantAt_5 ?_
  refine lv_iconst (v := (-1)) hx hb dX7_wantAt_6 (by decide) ?_
  refine lv_icmp_eq (tgt := 17) hx hb dX7_wantAt_7 (by decide) (fun c2 => ?_) (fun c2 => ?_)
  · replace h := gx_t c2 h
    refine lv_aload_n hx hb dX7_wantAt_17 rfl (lv_at hl 0 rfl) ?_
    refine va_get (D := D) (ci := 7) (v := .int (cS_weather u)) (C := RX7) (T := TX7) (N := 4) hx hb hts iX7 hown hK hP 3 rfl rfl 3 (by decide) hf21 (fun _ h9 => h9) rfl dX7_wantAt_18 ?_
    refine lv_iconst (v := 0) hx hb dX7_wantAt_21 (by decide) ?_
    refine lv_iconst (v := 3) hx hb dX7_wantAt_22 (by decide) ?_
    obtain ⟨y3, hc4, h⟩ := gx_bind h
    refine cc_iSN (As := [.int (cS_weather u), .int (0 : Int32), .int (3 : Int32)]) (rest := []) ⟨hx, hb, hml, hown, hts⟩ (k_X9_isWithin l D cI cZ ad u (cS_weather u) (0 : Int32) (3 : Int32) hc4) ⟨va_cnB 3 hts (gwM mw_274) rfl rfl rfl (hZ.1 ("RedcrossGantry$SpeedSigns", 44, yX9_isWithin) (by decide +kernel)) (hts _ mw_48) (by decide +kernel) ⟨Nat.le_of_ble_eq_true rfl, Nat.le_of_ble_eq_true rfl⟩, hts _ mw_273, trivial⟩ hK hP hD hS hA hZ rfl hl.1 rfl (Nat.le_of_ble_eq_true rfl) dX7_wantAt_23 ⟨Nat.zero_le _, Nat.zero_le _⟩ (fun H locs hP hD hS => ?_)
    obtain ⟨j42_5, ej42_5, h⟩ := gx_let h
    have hj42_5 : ∀ (z0_42 : Int32) (H : Heap) (locs : List Loc) (ls : Array Slot), j42_5 z0_42 = some r → va_P D vwCl (wC cI cZ ad u) H → va_D A (wC cI cZ ad u) → va_S A s.heap H locs → lv_has ls 4 [(2, .int p1)] → W p l e rX7_wantAt s m ([.ref (ad 3), .int p0, .int p1] : List Value).toArray below meth c H locs 0 0 Q (F0 m 42 ls [.int z0_42]) := by
      intro z0_42 H locs ls h hP hD hS hl
      subst ej42_5
      refine lv_istore_n (lv' := [(3, .int z0_42), (2, .int p1)]) hx hb dX7_wantAt_42 rfl hl (by decide) rfl (fun ls hl => ?_)
      refine lv_iload_n hx hb dX7_wantAt_43 rfl (lv_at hl 1 rfl) ?_
      obtain ⟨y6, hc7, h⟩ := gx_bind h
      refine cc_iS (As := [.int p1]) (rest := []) ⟨hx, hb, hml, hown, hts⟩ (k_X7_wantBy l D cI cZ ad u p1 hc7) (va_cwS 1 hts (gwS mw_576 mw_577 mw_51 mw_578) rfl rfl rfl (by decide +kernel) ⟨Nat.le_of_ble_eq_true rfl, Nat.le_of_ble_eq_true rfl⟩) hK hP hD hS hA hZ rfl hl.1 rfl (Nat.le_of_ble_eq_true rfl) dX7_wantAt_44 ⟨Nat.zero_le _, Nat.zero_le _⟩ (fun H locs hP hD hS => ?_)
      refine lv_iload_n hx hb dX7_wantAt_47 rfl (lv_at hl 0 rfl) ?_
      refine va_mmin hx hb (hml.trans hl.1.symm) hown (hts _ mw_579) (hts _ mw_538) (hts _ mw_58) (hts _ mw_539) (Nat.le_of_ble_eq_true rfl) (Nat.le_of_ble_eq_true rfl) (Nat.zero_le _) (Nat.zero_le _) dX7_wantAt_48 ?_
      cases h
      exact cc_ret hx hb hr rfl hQ hK hP hD hS rfl dX7_wantAt_51 hlocks
    refine lv_if_eq (tgt := 40) hx hb dX7_wantAt_26 (by decide) (fun c8 => ?_) (fun c8 => ?_)
    · replace h := gx_t c8 h
      refine lv_bipush (v := 120) hx hb dX7_wantAt_40 (by decide) ?_
      exact hj42_5 (120 : Int32) _ _ _ h hP hD hS (lv_sub hl [2] rfl)
    · replace h := gx_f c8 h
      refine va_gets hx hb hz_t3 hS hown hf47 (fun _ h9 => h9) dX7_wantAt_29 ?_
      refine lv_aload_n hx hb dX7_wantAt_32 rfl (lv_at hl 0 rfl) ?_
      refine va_get (D := D) (ci := 7) (v := .int (cS_weather u)) (C := RX7) (T := TX7) (N := 4) hx hb hts iX7 hown hK hP 3 rfl rfl 3 (by decide) hf21 (fun _ h9 => h9) rfl dX7_wantAt_33 ?_
      obtain ⟨b9, h⟩ := gx_in h
      refine va_ti hx hb ht_t3 hS b9 rfl dX7_wantAt_36 ?_
      refine lv_goto (tgt := 42) hx hb dX7_wantAt_37 (by decide) ?_
      exact hj42_5 (wlF (cS_weather u).toNatClampNeg) _ _ _ h hP hD hS (lv_sub hl [2] rfl)
  · replace h := gx_f c2 h
    refine lv_aload_n hx hb dX7_wantAt_10 rfl (lv_at hl 0 rfl) ?_
    refine va_get (D := D) (ci := 7) (v := .ref (ad 15)) (C := RX7) (T := TX7) (N := 4) hx hb hts iX7 hown hK hP 3 rfl rfl 0 (by decide) hf9 (fun _ h9 => h9) rfl dX7_wantAt_11 ?_
    refine lv_iload_n hx hb dX7_wantAt_14 rfl (lv_at hl 1 rfl) ?_
    obtain ⟨b10, h⟩ := gx_in h
    refine va_iald (D := D) hx hb hK hP 15 0 rfl rfl b10 dX7_wantAt_15 ?_
    cases h
    exact cc_ret hx hb hr rfl hQ hK hP hD hS rfl dX7_wantAt_16 hlocks

def rX7_staysBelow : Room := { frames := 0, cells := 0, slots := 0, locals := 0 }
set_option maxHeartbeats 4000000 in
set_option maxRecDepth 100000 in
theorem k_X7_staysBelow (l : Launch) (D : va_G) (cI cZ : ClassId) (ad : Nat → Nat) (u : GS) (p0 : Int32) (p1 : Int32) (p2 : Int32) {r : Int32} (h : g_X7_staysBelow u p0 p1 p2 = some r) : MI l yX7_staysBelow (wm yX7_staysBelow cX7_staysBelow 4 (some .boolean)) rX7_staysBelow D [(cI, .int), (cZ, .boolean)] (wC cI cZ ad u) (wC cI cZ ad u) [.ref (ad 3), .int p0, .int p1, .int p2] r := by
  intro sz
  refine Met.ofW (cc := cX7_staysBelow) (maxL := 4) (ret := (some .boolean)) (by decide) rfl ?_
  intro p e s m args below meth c s₁ B hml hv
  obtain ⟨rfl, hsz, hP, hK, hD0, hZ⟩ := hv
  have hx := B.exec
  have hb := B.bytes
  have hr := B.returns
  have hts : ∀ w ∈ Wall, w.before _ s = true := fun w hw => atoms_spec (ws := wm yX7_staysBelow cX7_staysBelow 4 (some .boolean)) B.pre w (List.mem_cons_of_mem _ hw)
  have hown : s.vm.findClass RX7 = some m.cls := findClass_of_methodNamed B.named
  have hlocks := B.notSynchronized
  subst hsz
  have hD := hD0.self (sz := s.heap.size)
  generalize hAe : va_A (wC cI cZ ad u) s.heap.size = A at hD hZ ⊢
  have hA : ∀ q : Nat, s.heap.size ≤ q → A q := fun q h => by rw [← hAe]; exact Or.inr h
  have hS : va_S A s.heap s.heap [] := va_S.rf
  have hf9 := hts _ mw_132
  have hf15 := hts _ mw_134
  have hf18 := hts _ mw_136
  have hl := lv_entry ([.ref (ad 3), .int p0, .int p1, .int p2]) (n := 4) (Nat.le_of_ble_eq_true rfl)
  rw [lg_entry_eq]
  generalize (lg_sl ([.ref (ad 3), .int p0, .int p1, .int p2]) ++ List.replicate (4 - (lg_sl ([.ref (ad 3), .int p0, .int p1, .int p2])).length) Slot.unset).toArray = ls at hl ⊢
  replace hl : lv_has ls 4 [(0, .ref (ad 3)), (1, .int p0), (2, .int p1), (3, .int p2)] := hl
  refine w_gen (fun Q hQ => ?_)
  refine lv_aload_n hx hb dX7_staysBelow_0 rfl (lv_at hl 0 rfl) ?_
  refine va_get (D := D) (ci := 7) (v := .ref (ad 15)) (C := RX7) (T := TX7) (N := 4) hx hb hts iX7 hown hK hP 3 rfl rfl 0 (by decide) hf9 (fun _ h9 => h9) rfl dX7_staysBelow_1 ?_
  refine lv_iload_n hx hb dX7_staysBelow_4 rfl (lv_at hl 2 rfl) ?_
  obtain ⟨b1, h⟩ := gx_in h
  refine va_iald (D := D) hx hb hK hP 15 0 rfl rfl b1 dX7_staysBelow_5 ?_
  refine lv_iconst (v := (-1)) hx hb dX7_staysBelow_6 (by decide) ?_
  refine lv_icmp_ne (tgt := 36) hx hb dX7_staysBelow_7 (by decide) (fun c2 => ?_) (fun c2 => ?_)
  · replace h := gx_f c2 h
    refine lv_iconst (v := 0) hx hb dX7_staysBelow_36 (by decide) ?_
    cases h
    exact cc_ret hx hb hr rfl hQ hK hP hD hS rfl dX7_staysBelow_37 hlocks
  · replace h := gx_t c2 h
    refine lv_iload_n hx hb dX7_staysBelow_10 rfl (lv_at hl 1 rfl) ?_
    refine lv_aload_n hx hb dX7_staysBelow_11 rfl (lv_at hl 0 rfl) ?_
    refine va_get (D := D) (ci := 7) (v := .ref (ad 16)) (C := RX7) (T := TX7) (N := 4) hx hb hts iX7 hown hK hP 3 rfl rfl 1 (by decide) hf15 (fun _ h9 => h9) rfl dX7_staysBelow_12 ?_
    refine lv_iload_n hx hb dX7_staysBelow_15 rfl (lv_at hl 2 rfl) ?_
    obtain ⟨b3, h⟩ := gx_in h
    refine va_iald (D := D) hx hb hK hP 16 0 rfl rfl b3 dX7_staysBelow_16 ?_
    refine lv_icmp_le (tgt := 36) hx hb dX7_staysBelow_17 (by decide) (fun c4 => ?_) (fun c4 => ?_)
    · replace h := gx_t c4 h
      refine lv_iconst (v := 0) hx hb dX7_staysBelow_36 (by decide) ?_
      cases h
      exact cc_ret hx hb hr rfl hQ hK hP hD hS rfl dX7_staysBelow_37 hlocks
    · replace h := gx_f c4 h
      refine lv_iload_n hx hb dX7_staysBelow_20 rfl (lv_at hl 3 rfl) ?_
      refine lv_aload_n hx hb dX7_staysBelow_21 rfl (lv_at hl 0 rfl) ?_
      refine va_get (D := D) (ci := 7) (v := .ref (ad 17)) (C := RX7) (T := TX7) (N := 4) hx hb hts iX7 hown hK hP 3 rfl rfl 2 (by decide) hf18 (fun _ h9 => h9) rfl dX7_staysBelow_22 ?_
      refine lv_iload_n hx hb dX7_staysBelow_25 rfl (lv_at hl 2 rfl) ?_
      obtain ⟨b5, h⟩ := gx_in h
      refine va_iald (D := D) hx hb hK hP 17 0 rfl rfl b5 dX7_staysBelow_26 ?_
      refine lv_isub hx hb dX7_staysBelow_27 ?_
      refine lv_iconst (v := 3) hx hb dX7_staysBelow_28 (by decide) ?_
      refine lv_icmp_ge (tgt := 36) hx hb dX7_staysBelow_29 (by decide) (fun c6 => ?_) (fun c6 => ?_)
      · replace h := gx_t c6 h
        refine lv_iconst (v := 0) hx hb dX7_staysBelow_36 (by decide) ?_
        cases h
        exact cc_ret hx hb hr rfl hQ hK hP hD hS rfl dX7_staysBelow_37 hlocks
      · replace h := gx_f c6 h
        refine lv_iconst (v := 1) hx hb dX7_staysBelow_32 (by decide) ?_
        refine lv_goto (tgt := 37) hx hb dX7_staysBelow_33 (by decide) ?_
        cases h
        exact cc_ret hx hb hr rfl hQ hK hP hD hS rfl dX7_staysBelow_37 hlocks

def rX7_setAnew : Room := { frames := 4, cells := 0, slots := 0, locals := 94 }
set_option maxHeartbeats 4000000 in
set_option maxRecDepth 100000 in
theorem k_X7_setAnew (l : Launch) (D : va_G) (cI cZ : ClassId) (ad : Nat → Nat) (u : GS) (p0 : Int32) {w' : GS} (h : g_X7_setAnew u p0 = some w') : MV l yX7_setAnew (wm yX7_setAnew cX7_setAnew 7 none) rX7_setAnew D [(cI, .int), (cZ, .boolean)] (wC cI cZ ad u) (wC cI cZ ad w') [.ref (ad 3), .int p0, .ref (ad 2), .ref (ad 1)] := by
  intro sz
  refine Met.ofW (cc := cX7_setAnew) (maxL := 7) (ret := none) (by decide) rfl ?_
  intro p e s m args below meth c s₁ B hml hv
  obtain ⟨rfl, hsz, hP, hK, hD0, hZ⟩ := hv
  have hx := B.exec
  have hb := B.bytes
  have hr := B.returns
  have hts : ∀ w ∈ Wall, w.before _ s = true := fun w hw => atoms_spec (ws := wm yX7_setAnew cX7_setAnew 7 none) B.pre w (List.mem_cons_of_mem _ hw)
  have hown : s.vm.findClass RX7 = some m.cls := findClass_of_methodNamed B.named
  have hlocks := B.notSynchronized
  subst hsz
  have hD := hD0.self (sz := s.heap.size)
  generalize hAe : va_A (wC cI cZ ad u) s.heap.size = A at hD hZ ⊢
  have hA : ∀ q : Nat, s.heap.size ≤ q → A q := fun q h => by rw [← hAe]; exact Or.inr h
  have hS : va_S A s.heap s.heap [] := va_S.rf
  have hf15 := hts _ mw_134
  have hf18 := hts _ mw_136
  have hl := lv_entry ([.ref (ad 3), .int p0, .ref (ad 2), .ref (ad 1)]) (n := 7) (Nat.le_of_ble_eq_true rfl)
  rw [lg_entry_eq]
  generalize (lg_sl ([.ref (ad 3), .int p0, .ref (ad 2), .ref (ad 1)]) ++ List.replicate (7 - (lg_sl ([.ref (ad 3), .int p0, .ref (ad 2), .ref (ad 1)])).length) Slot.unset).toArray = ls at hl ⊢
  replace hl : lv_has ls 7 [(0, .ref (ad 3)), (1, .int p0), (2, .ref (ad 2)), (3, .ref (ad 1))] := hl
  refine w_gen (fun Q hQ => ?_)
  refine lv_bipush (v := 11) hx hb dX7_setAnew_0 (by decide) ?_
  refine lv_istore (lv' := [(4, .int (11 : Int32)), (0, .ref (ad 3)), (1, .int p0), (2, .ref (ad 2)), (3, .ref (ad 1))]) hx hb dX7_setAnew_2 hl (by decide) rfl (fun ls hl => ?_)
  have hL4 : ∀ (k : GS → Option (GS)) (hk : ∀ (w4 : GS) (H : Heap) (locs : List Loc) (ls : Array Slot), k w4 = some w' → va_P D vwCl (wC cI cZ ad w4) H → va_D A (wC cI cZ ad w4) → va_S A s.heap H locs → lv_has ls 7 [] → W p l e rX7_setAnew s m ([.ref (ad 3), .int p0, .ref (ad 2), .ref (ad 1)] : List Value).toArray below meth c H locs 0 0 Q (F0 m 113 ls [])) (n : Nat) (x4_4 : Int32) (w4 : GS) (H : Heap) (locs : List Loc) (ls : Array Slot), lp_X7_setAnew_4 p0 k n x4_4 w4 = some w' → va_P D vwCl (wC cI cZ ad w4) H → va_D A (wC cI cZ ad w4) → va_S A s.heap H locs → lv_has ls 7 [(0, .ref (ad 3)), (1, .int p0), (2, .ref (ad 2)), (3, .ref (ad 1)), (4, .int x4_4)] → W p l e rX7_setAnew s m ([.ref (ad 3), .int p0, .ref (ad 2), .ref (ad 1)] : List Value).toArray below meth c H locs 0 0 Q (F0 m 4 ls []) := by
    intro k hk n
    induction n with
    | zero =>
      intro x4_4 w4 H locs ls h
      rw [lp_X7_setAnew_4] at h
      cases h
    | succ n ih =>
      intro x4_4 w4 H locs ls h hP hD hS hl
      rw [lp_X7_setAnew_4] at h
      refine lv_iload hx hb dX7_setAnew_4 (lv_at hl 4 rfl) ?_
      refine lv_if_lt (tgt := 113) hx hb dX7_setAnew_6 (by decide) (fun c1 => ?_) (fun c1 => ?_)
      · replace h := gx_t c1 h
        exact hk w4 _ _ _ h hP hD hS (lv_sub hl [] rfl)
      · replace h := gx_f c1 h
        refine lv_aload_n hx hb dX7_setAnew_9 rfl (lv_at hl 0 rfl) ?_
        refine lv_iload hx hb dX7_setAnew_10 (lv_at hl 4 rfl) ?_
        refine lv_aload_n hx hb dX7_setAnew_12 rfl (lv_at hl 2 rfl) ?_
        refine lv_iload hx hb dX7_setAnew_13 (lv_at hl 4 rfl) ?_
        refine lv_aload_n hx hb dX7_setAnew_15 rfl (lv_at hl 3 rfl) ?_
        obtain ⟨y2, hc3, h⟩ := gx_bind h
        refine cc_iV (As := [.int x4_4, .ref (ad 1)]) (rest := [.int x4_4, .ref (ad 3)]) ⟨hx, hb, hml, hown, hts⟩ (k_X1_beliefAt l D cI cZ ad w4 x4_4 hc3) (cwV 2 hts (gwV mw_568 mw_364 mw_365 mw_50 mw_366) rfl rfl rfl (by decide +kernel) ⟨Nat.le_of_ble_eq_true rfl, Nat.le_of_ble_eq_true rfl⟩) hK hP hD hS hA hZ (ci := 1) (q0 := 2) rfl rfl rfl hl.1 rfl (Nat.le_of_ble_eq_true rfl) dX7_setAnew_16 ⟨Nat.zero_le _, Nat.zero_le _⟩ (fun H locs hP hD hS => ?_)
        obtain ⟨y4, hc5, h⟩ := gx_bind h
        refine cc_iV (As := [.int x4_4, .int y2]) (rest := []) ⟨hx, hb, hml, hown, hts⟩ (k_X7_wantAt l D cI cZ ad w4 x4_4 y2 hc5) (cwV 2 hts (gwV mw_569 mw_571 mw_12 mw_51 mw_572) rfl rfl rfl (by decide +kernel) ⟨Nat.le_of_ble_eq_true rfl, Nat.le_of_ble_eq_true rfl⟩) hK hP hD hS hA hZ (ci := 7) (q0 := 3) rfl rfl rfl hl.1 rfl (Nat.le_of_ble_eq_true rfl) dX7_setAnew_19 ⟨Nat.zero_le _, Nat.zero_le _⟩ (fun H locs hP hD hS => ?_)
        refine lv_istore (lv' := [(5, .int y4), (0, .ref (ad 3)), (1, .int p0), (2, .ref (ad 2)), (3, .ref (ad 1)), (4, .int x4_4)]) hx hb dX7_setAnew_22 hl (by decide) rfl (fun ls hl => ?_)
        refine lv_aload_n hx hb dX7_setAnew_24 rfl (lv_at hl 1 rfl) ?_
        refine lv_iload hx hb dX7_setAnew_25 (lv_at hl 0 rfl) ?_
        refine lv_iload hx hb dX7_setAnew_27 (lv_at hl 5 rfl) ?_
        refine lv_iload_n hx hb dX7_setAnew_29 rfl (lv_at hl 2 rfl) ?_
        obtain ⟨y6, hc7, h⟩ := gx_bind h
        refine cc_iV (As := [.int y4, .int x4_4, .int p0]) (rest := []) ⟨hx, hb, hml, hown, hts⟩ (k_X7_staysBelow l D cI cZ ad w4 y4 x4_4 p0 hc7) (cwV 3 hts (gwV mw_580 mw_582 mw_13 mw_51 mw_583) rfl rfl rfl (by decide +kernel) ⟨Nat.le_of_ble_eq_true rfl, Nat.le_of_ble_eq_true rfl⟩) hK hP hD hS hA hZ (ci := 7) (q0 := 3) rfl rfl rfl hl.1 rfl (Nat.le_of_ble_eq_true rfl) dX7_setAnew_30 ⟨Nat.zero_le _, Nat.zero_le _⟩ (fun H locs hP hD hS => ?_)
        obtain ⟨j48_8, ej48_8, h⟩ := gx_let h
        have hj48_8 : ∀ (z0_48 : Int32) (H : Heap) (locs : List Loc) (ls : Array Slot), j48_8 z0_48 = some w' → va_P D vwCl (wC cI cZ ad w4) H → va_D A (wC cI cZ ad w4) → va_S A s.heap H locs → lv_has ls 7 [(0, .ref (ad 3)), (1, .int p0), (2, .ref (ad 2)), (3, .ref (ad 1)), (4, .int x4_4)] → W p l e rX7_setAnew s m ([.ref (ad 3), .int p0, .ref (ad 2), .ref (ad 1)] : List Value).toArray below meth c H locs 0 0 Q (F0 m 48 ls [.int z0_48]) := by
          intro z0_48 H locs ls h hP hD hS hl
          subst ej48_8
          refine lv_istore (lv' := [(6, .int z0_48), (0, .ref (ad 3)), (1, .int p0), (2, .ref (ad 2)), (3, .ref (ad 1)), (4, .int x4_4)]) hx hb dX7_setAnew_48 hl (by decide) rfl (fun ls hl => ?_)
          refine lv_iload hx hb dX7_setAnew_50 (lv_at hl 5 rfl) ?_
          refine lv_iconst (v := 1) hx hb dX7_setAnew_52 (by decide) ?_
          refine lv_iadd hx hb dX7_setAnew_53 ?_
          refine lv_bipush (v := 12) hx hb dX7_setAnew_54 (by decide) ?_
          obtain ⟨j78_9, ej78_9, h⟩ := gx_let h
          have hj78_9 : ∀ (x6_78 : Int32) (H : Heap) (locs : List Loc) (ls : Array Slot), j78_9 x6_78 = some w' → va_P D vwCl (wC cI cZ ad w4) H → va_D A (wC cI cZ ad w4) → va_S A s.heap H locs → lv_has ls 7 [(0, .ref (ad 3)), (1, .int p0), (2, .ref (ad 2)), (3, .ref (ad 1)), (4, .int x4_4), (6, .int x6_78)] → W p l e rX7_setAnew s m ([.ref (ad 3), .int p0, .ref (ad 2), .ref (ad 1)] : List Value).toArray below meth c H locs 0 0 Q (F0 m 78 ls []) := by
            intro x6_78 H locs ls h hP hD hS hl
            subst ej78_9
            refine lv_iload hx hb dX7_setAnew_78 (lv_at hl 5 rfl) ?_
            refine lv_aload_n hx hb dX7_setAnew_80 rfl (lv_at hl 0 rfl) ?_
            refine va_get (D := D) (ci := 7) (v := .ref (ad 16)) (C := RX7) (T := TX7) (N := 4) hx hb hts iX7 hown hK hP 3 rfl rfl 1 (by decide) hf15 (fun _ h9 => h9) rfl dX7_setAnew_81 ?_
            refine lv_iload hx hb dX7_setAnew_84 (lv_at hl 4 rfl) ?_
            obtain ⟨b10, h⟩ := gx_in h
            refine va_iald (D := D) hx hb hK hP 16 0 rfl rfl b10 dX7_setAnew_86 ?_
            obtain ⟨j98_11, ej98_11, h⟩ := gx_let h
            have hj98_11 : ∀ (w98 : GS) (H : Heap) (locs : List Loc) (ls : Array Slot), j98_11 w98 = some w' → va_P D vwCl (wC cI cZ ad w98) H → va_D A (wC cI cZ ad w98) → va_S A s.heap H locs → lv_has ls 7 [(0, .ref (ad 3)), (1, .int p0), (2, .ref (ad 2)), (3, .ref (ad 1)), (4, .int x4_4), (6, .int x6_78)] → W p l e rX7_setAnew s m ([.ref (ad 3), .int p0, .ref (ad 2), .ref (ad 1)] : List Value).toArray below meth c H locs 0 0 Q (F0 m 98 ls []) := by
              intro w98 H locs ls h hP hD hS hl
              subst ej98_11
              refine lv_aload_n hx hb dX7_setAnew_98 rfl (lv_at hl 0 rfl) ?_
              refine va_get (D := D) (ci := 7) (v := .ref (ad 16)) (C := RX7) (T := TX7) (N := 4) hx hb hts iX7 hown hK hP 3 rfl rfl 1 (by decide) hf15 (fun _ h9 => h9) rfl dX7_setAnew_99 ?_
              refine lv_iload hx hb dX7_setAnew_102 (lv_at hl 4 rfl) ?_
              refine lv_iload hx hb dX7_setAnew_104 (lv_at hl 5 rfl) ?_
              obtain ⟨b12, h⟩ := gx_in h
              refine va_iast (D := D) hx hb hK hP hD hS 16 0 rfl rfl b12 dX7_setAnew_106 (fun H locs hP hD hS => ?_)
              obtain ⟨u13, eu13, h⟩ := gx_let h
              replace hP : va_P D vwCl (wC cI cZ ad u13) H := by rw [← eu13]; exact hP
              replace hD : va_D A (wC cI cZ ad u13) := by rw [← eu13]; exact hD
              obtain ⟨v14, ev14, h⟩ := gx_let h
              refine lv_iinc (v := v14) (lv' := [(4, .int v14), (0, .ref (ad 3)), (1, .int p0), (2, .ref (ad 2)), (3, .ref (ad 1)), (6, .int x6_78)]) hx hb dX7_setAnew_107 hl (k := 4) rfl (by rw [← ev14]; rfl) (by decide) rfl (fun ls hl => ?_)
              refine lv_goto (tgt := 4) hx hb dX7_setAnew_110 (by decide) ?_
              exact ih v14 u13 _ _ _ h hP hD hS (lv_sub hl [1, 2, 3, 4, 0] rfl)
            refine lv_icmp_ge (tgt := 98) hx hb dX7_setAnew_87 (by decide) (fun c15 => ?_) (fun c15 => ?_)
            · replace h := gx_t c15 h
              exact hj98_11 w4 _ _ _ h hP hD hS (lv_sub hl [0, 1, 2, 3, 4, 5] rfl)
            · replace h := gx_f c15 h
              refine lv_aload_n hx hb dX7_setAnew_90 rfl (lv_at hl 0 rfl) ?_
              refine va_get (D := D) (ci := 7) (v := .ref (ad 17)) (C := RX7) (T := TX7) (N := 4) hx hb hts iX7 hown hK hP 3 rfl rfl 2 (by decide) hf18 (fun _ h9 => h9) rfl dX7_setAnew_91 ?_
              refine lv_iload hx hb dX7_setAnew_94 (lv_at hl 4 rfl) ?_
              refine lv_iload_n hx hb dX7_setAnew_96 rfl (lv_at hl 1 rfl) ?_
              obtain ⟨b16, h⟩ := gx_in h
              refine va_iast (D := D) hx hb hK hP hD hS 17 0 rfl rfl b16 dX7_setAnew_97 (fun H locs hP hD hS => ?_)
              obtain ⟨u17, eu17, h⟩ := gx_let h
              replace hP : va_P D vwCl (wC cI cZ ad u17) H := by rw [← eu17]; exact hP
              replace hD : va_D A (wC cI cZ ad u17) := by rw [← eu17]; exact hD
              exact hj98_11 u17 _ _ _ h hP hD hS (lv_sub hl [0, 1, 2, 3, 4, 5] rfl)
          refine lv_icmp_ge (tgt := 78) hx hb dX7_setAnew_56 (by decide) (fun c18 => ?_) (fun c18 => ?_)
          · replace h := gx_t c18 h
            exact hj78_9 z0_48 _ _ _ h hP hD hS (lv_sub hl [1, 2, 3, 4, 5, 0] rfl)
          · replace h := gx_f c18 h
            refine lv_iload hx hb dX7_setAnew_59 (lv_at hl 0 rfl) ?_
            refine lv_aload_n hx hb dX7_setAnew_61 rfl (lv_at hl 1 rfl) ?_
            refine va_get (D := D) (ci := 7) (v := .ref (ad 16)) (C := RX7) (T := TX7) (N := 4) hx hb hts iX7 hown hK hP 3 rfl rfl 1 (by decide) hf15 (fun _ h9 => h9) rfl dX7_setAnew_62 ?_
            refine lv_iload hx hb dX7_setAnew_65 (lv_at hl 5 rfl) ?_
            refine lv_iconst (v := 1) hx hb dX7_setAnew_67 (by decide) ?_
            refine lv_iadd hx hb dX7_setAnew_68 ?_
            obtain ⟨b19, h⟩ := gx_in h
            refine va_iald (D := D) hx hb hK hP 16 0 rfl rfl b19 dX7_setAnew_69 ?_
            refine lv_bipush (v := 20) hx hb dX7_setAnew_70 (by decide) ?_
            refine lv_iadd hx hb dX7_setAnew_72 ?_
            refine va_mmin hx hb (hml.trans hl.1.symm) hown (hts _ mw_579) (hts _ mw_538) (hts _ mw_58) (hts _ mw_539) (Nat.le_of_ble_eq_true rfl) (Nat.le_of_ble_eq_true rfl) (Nat.zero_le _) (Nat.zero_le _) dX7_setAnew_73 ?_
            obtain ⟨v20, ev20, h⟩ := gx_let h
            refine lv_topn ev20 ?_
            refine lv_istore (lv' := [(6, .int v20), (0, .ref (ad 3)), (1, .int p0), (2, .ref (ad 2)), (3, .ref (ad 1)), (4, .int x4_4)]) hx hb dX7_setAnew_76 hl (by decide) rfl (fun ls hl => ?_)
            exact hj78_9 v20 _ _ _ h hP hD hS (lv_sub hl [1, 2, 3, 4, 5, 0] rfl)
        refine lv_if_eq (tgt := 46) hx hb dX7_setAnew_33 (by decide) (fun c21 => ?_) (fun c21 => ?_)
        · replace h := gx_t c21 h
          refine lv_iload hx hb dX7_setAnew_46 (lv_at hl 0 rfl) ?_
          exact hj48_8 y4 _ _ _ h hP hD hS (lv_sub hl [1, 2, 3, 4, 5] rfl)
        · replace h := gx_f c21 h
          refine lv_aload_n hx hb dX7_setAnew_36 rfl (lv_at hl 1 rfl) ?_
          refine va_get (D := D) (ci := 7) (v := .ref (ad 16)) (C := RX7) (T := TX7) (N := 4) hx hb hts iX7 hown hK hP 3 rfl rfl 1 (by decide) hf15 (fun _ h9 => h9) rfl dX7_setAnew_37 ?_
          refine lv_iload hx hb dX7_setAnew_40 (lv_at hl 5 rfl) ?_
          obtain ⟨b22, h⟩ := gx_in h
          refine va_iald (D := D) hx hb hK hP 16 0 rfl rfl b22 dX7_setAnew_42 ?_
          refine lv_goto (tgt := 48) hx hb dX7_setAnew_43 (by decide) ?_
          exact hj48_8 (cS_shown w4 x4_4.toNatClampNeg) _ _ _ h hP hD hS (lv_sub hl [1, 2, 3, 4, 5] rfl)
  refine hL4 _ (fun w4 H locs ls h hP hD hS hl => ?_) FU (11 : Int32) u _ _ _ h hP hD hS (lv_sub hl [1, 2, 3, 4, 0] rfl)
  cases h
  exact cc_vret hx hb hr hQ hK hP hD hS dX7_setAnew_113 hlocks

def rX7_areLawful : Room := { frames := 0, cells := 0, slots := 0, locals := 0 }
set_option maxHeartbeats 4000000 in
set_option maxRecDepth 100000 in
theorem k_X7_areLawful (l : Launch) (D : va_G) (cI cZ : ClassId) (ad : Nat → Nat) (u : GS) {r : Int32} (h : g_X7_areLawful u = some r) : MI l yX7_areLawful (wm yX7_areLawful cX7_areLawful 2 (some .boolean)) rX7_areLawful D [(cI, .int), (cZ, .boolean)] (wC cI cZ ad u) (wC cI cZ ad u) [.ref (ad 3)] r := by
  intro sz
  refine Met.ofW (cc := cX7_areLawful) (maxL := 2) (ret := (some .boolean)) (by decide) rfl ?_
  intro p e s m args below meth c s₁ B hml hv
  obtain ⟨rfl, hsz, hP, hK, hD0, hZ⟩ := hv
  have hx := B.exec
  have hb := B.bytes
  have hr := B.returns
  have hts : ∀ w ∈ Wall, w.before _ s = true := fun w hw => atoms_spec (ws := wm yX7_areLawful cX7_areLawful 2 (some .boolean)) B.pre w (List.mem_cons_of_mem _ hw)
  have hown : s.vm.findClass RX7 = some m.cls := findClass_of_methodNamed B.named
  have hlocks := B.notSynchronized
  subst hsz
  have hD := hD0.self (sz := s.heap.size)
  generalize hAe : va_A (wC cI cZ ad u) s.heap.size = A at hD hZ ⊢
  have hA : ∀ q : Nat, s.heap.size ≤ q → A q := fun q h => by rw [← hAe]; exact Or.inr h
  have hS : va_S A s.heap s.heap [] := va_S.rf
  have hf15 := hts _ mw_134
  have hl := lv_entry ([.ref (ad 3)]) (n := 2) (Nat.le_of_ble_eq_true rfl)
  rw [lg_entry_eq]
  generalize (lg_sl ([.ref (ad 3)]) ++ List.replicate (2 - (lg_sl ([.ref (ad 3)])).length) Slot.unset).toArray = ls at hl ⊢
  replace hl : lv_has ls 2 [(0, .ref (ad 3))] := hl
  refine w_gen (fun Q hQ => ?_)
  refine lv_iconst (v := 0) hx hb dX7_areLawful_0 (by decide) ?_
  refine lv_istore_n (lv' := [(1, .int (0 : Int32)), (0, .ref (ad 3))]) hx hb dX7_areLawful_1 rfl hl (by decide) rfl (fun ls hl => ?_)
  have hL2 : ∀ (k : Unit → Option (Int32)) (hk : ∀ (H : Heap) (locs : List Loc) (ls : Array Slot), k () = some r → va_P D vwCl (wC cI cZ ad u) H → va_D A (wC cI cZ ad u) → va_S A s.heap H locs → lv_has ls 2 [] → W p l e rX7_areLawful s m ([.ref (ad 3)] : List Value).toArray below meth c H locs 0 0 Q (F0 m 38 ls [])) (n : Nat) (x1_2 : Int32) (H : Heap) (locs : List Loc) (ls : Array Slot), lp_X7_areLawful_2 u k n x1_2 = some r → va_P D vwCl (wC cI cZ ad u) H → va_D A (wC cI cZ ad u) → va_S A s.heap H locs → lv_has ls 2 [(0, .ref (ad 3)), (1, .int x1_2)] → W p l e rX7_areLawful s m ([.ref (ad 3)] : List Value).toArray below meth c H locs 0 0 Q (F0 m 2 ls []) := by
    intro k hk n
    induction n with
    | zero =>
      intro x1_2 H locs ls h
      rw [lp_X7_areLawful_2] at h
      cases h
    | succ n ih =>
      intro x1_2 H locs ls h hP hD hS hl
      rw [lp_X7_areLawful_2] at h
      refine lv_iload_n hx hb dX7_areLawful_2 rfl (lv_at hl 1 rfl) ?_
      refine lv_iconst (v := 1) hx hb dX7_areLawful_3 (by decide) ?_
      refine lv_iadd hx hb dX7_areLawful_4 ?_
      refine lv_bipush (v := 12) hx hb dX7_areLawful_5 (by decide) ?_
      refine lv_icmp_ge (tgt := 38) hx hb dX7_areLawful_7 (by decide) (fun c1 => ?_) (fun c1 => ?_)
      · replace h := gx_t c1 h
        exact hk _ _ _ h hP hD hS (lv_sub hl [] rfl)
      · replace h := gx_f c1 h
        refine lv_aload_n hx hb dX7_areLawful_10 rfl (lv_at hl 0 rfl) ?_
        refine va_get (D := D) (ci := 7) (v := .ref (ad 16)) (C := RX7) (T := TX7) (N := 4) hx hb hts iX7 hown hK hP 3 rfl rfl 1 (by decide) hf15 (fun _ h9 => h9) rfl dX7_areLawful_11 ?_
        refine lv_iload_n hx hb dX7_areLawful_14 rfl (lv_at hl 1 rfl) ?_
        obtain ⟨b2, h⟩ := gx_in h
        refine va_iald (D := D) hx hb hK hP 16 0 rfl rfl b2 dX7_areLawful_15 ?_
        refine lv_aload_n hx hb dX7_areLawful_16 rfl (lv_at hl 0 rfl) ?_
        refine va_get (D := D) (ci := 7) (v := .ref (ad 16)) (C := RX7) (T := TX7) (N := 4) hx hb hts iX7 hown hK hP 3 rfl rfl 1 (by decide) hf15 (fun _ h9 => h9) rfl dX7_areLawful_17 ?_
        refine lv_iload_n hx hb dX7_areLawful_20 rfl (lv_at hl 1 rfl) ?_
        refine lv_iconst (v := 1) hx hb dX7_areLawful_21 (by decide) ?_
        refine lv_iadd hx hb dX7_areLawful_22 ?_
        obtain ⟨b3, h⟩ := gx_in h
        refine va_iald (D := D) hx hb hK hP 16 0 rfl rfl b3 dX7_areLawful_23 ?_
        refine lv_bipush (v := 20) hx hb dX7_areLawful_24 (by decide) ?_
        refine lv_iadd hx hb dX7_areLawful_26 ?_
        refine lv_icmp_le (tgt := 32) hx hb dX7_areLawful_27 (by decide) (fun c4 => ?_) (fun c4 => ?_)
        · replace h := gx_t c4 h
          obtain ⟨v5, ev5, h⟩ := gx_let h
          refine lv_iinc (v := v5) (lv' := [(1, .int v5), (0, .ref (ad 3))]) hx hb dX7_areLawful_32 hl (k := 1) rfl (by rw [← ev5]; rfl) (by decide) rfl (fun ls hl => ?_)
          refine lv_goto (tgt := 2) hx hb dX7_areLawful_35 (by decide) ?_
          exact ih v5 _ _ _ h hP hD hS (lv_sub hl [1, 0] rfl)
        · replace h := gx_f c4 h
          refine lv_iconst (v := 0) hx hb dX7_areLawful_30 (by decide) ?_
          cases h
          exact cc_ret hx hb hr rfl hQ hK hP hD hS rfl dX7_areLawful_31 hlocks
  refine hL2 _ (fun H locs ls h hP hD hS hl => ?_) FU (0 : Int32) _ _ _ h hP hD hS (lv_sub hl [1, 0] rfl)
  refine lv_iconst (v := 1) hx hb dX7_areLawful_38 (by decide) ?_
  cases h
  exact cc_ret hx hb hr rfl hQ hK hP hD hS rfl dX7_areLawful_39 hlocks

def rX8_countOnRoad : Room := { frames := 0, cells := 0, slots := 0, locals := 0 }
set_option maxHeartbeats 4000000 in
set_option maxRecDepth 100000 in
theorem k_X8_countOnRoad (l : Launch) (D : va_G) (cI cZ : ClassId) (ad : Nat → Nat) (u : GS) {r : Int32} (h : g_X8_countOnRoad u = some r) : MI l yX8_countOnRoad (wm yX8_countOnRoad cX8_countOnRoad 3 (some .int)) rX8_countOnRoad D [(cI, .int), (cZ, .boolean)] (wC cI cZ ad u) (wC cI cZ ad u) [.ref (ad 1)] r := by
  intro sz
  refine Met.ofW (cc := cX8_countOnRoad) (maxL := 3) (ret := (some .int)) (by decide) rfl ?_
  intro p e s m args below meth c s₁ B hml hv
  obtain ⟨rfl, hsz, hP, hK, hD0, hZ⟩ := hv
  have hx := B.exec
  have hb := B.bytes
  have hr := B.returns
  have hts : ∀ w ∈ Wall, w.before _ s = true := fun w hw => atoms_spec (ws := wm yX8_countOnRoad cX8_countOnRoad 3 (some .int)) B.pre w (List.mem_cons_of_mem _ hw)
  have hown : s.vm.findClass RX8 = some m.cls := findClass_of_methodNamed B.named
  have hlocks := B.notSynchronized
  subst hsz
  have hD := hD0.self (sz := s.heap.size)
  generalize hAe : va_A (wC cI cZ ad u) s.heap.size = A at hD hZ ⊢
  have hA : ∀ q : Nat, s.heap.size ≤ q → A q := fun q h => by rw [← hAe]; exact Or.inr h
  have hS : va_S A s.heap s.heap [] := va_S.rf
  have hf9 := hts _ mw_80
  have hl := lv_entry ([.ref (ad 1)]) (n := 3) (Nat.le_of_ble_eq_true rfl)
  rw [lg_entry_eq]
  generalize (lg_sl ([.ref (ad 1)]) ++ List.replicate (3 - (lg_sl ([.ref (ad 1)])).length) Slot.unset).toArray = ls at hl ⊢
  replace hl : lv_has ls 3 [(0, .ref (ad 1))] := hl
  refine w_gen (fun Q hQ => ?_)
  refine lv_iconst (v := 0) hx hb dX8_countOnRoad_0 (by decide) ?_
  refine lv_istore_n (lv' := [(1, .int (0 : Int32)), (0, .ref (ad 1))]) hx hb dX8_countOnRoad_1 rfl hl (by decide) rfl (fun ls hl => ?_)
  refine lv_iconst (v := 0) hx hb dX8_countOnRoad_2 (by decide) ?_
  refine lv_istore_n (lv' := [(2, .int (0 : Int32)), (1, .int (0 : Int32)), (0, .ref (ad 1))]) hx hb dX8_countOnRoad_3 rfl hl (by decide) rfl (fun ls hl => ?_)
  have hL4 : ∀ (k : Int32 → Option (Int32)) (hk : ∀ (x1_4 : Int32) (H : Heap) (locs : List Loc) (ls : Array Slot), k x1_4 = some r → va_P D vwCl (wC cI cZ ad u) H → va_D A (wC cI cZ ad u) → va_S A s.heap H locs → lv_has ls 3 [(1, .int x1_4)] → W p l e rX8_countOnRoad s m ([.ref (ad 1)] : List Value).toArray below meth c H locs 0 0 Q (F0 m 25 ls [])) (n : Nat) (x1_4 : Int32) (x2_4 : Int32) (H : Heap) (locs : List Loc) (ls : Array Slot), lp_X8_countOnRoad_4 u k n x1_4 x2_4 = some r → va_P D vwCl (wC cI cZ ad u) H → va_D A (wC cI cZ ad u) → va_S A s.heap H locs → lv_has ls 3 [(0, .ref (ad 1)), (1, .int x1_4), (2, .int x2_4)] → W p l e rX8_countOnRoad s m ([.ref (ad 1)] : List Value).toArray below meth c H locs 0 0 Q (F0 m 4 ls []) := by
    intro k hk n
    induction n with
    | zero =>
      intro x1_4 x2_4 H locs ls h
      rw [lp_X8_countOnRoad_4] at h
      cases h
    | succ n ih =>
      intro x1_4 x2_4 H locs ls h hP hD hS hl
      rw [lp_X8_countOnRoad_4] at h
      refine lv_iload_n hx hb dX8_countOnRoad_4 rfl (lv_at hl 2 rfl) ?_
      refine lv_bipush (v := 48) hx hb dX8_countOnRoad_5 (by decide) ?_
      refine lv_icmp_ge (tgt := 25) hx hb dX8_countOnRoad_7 (by decide) (fun c1 => ?_) (fun c1 => ?_)
      · replace h := gx_t c1 h
        exact hk x1_4 _ _ _ h hP hD hS (lv_sub hl [1] rfl)
      · replace h := gx_f c1 h
        refine lv_iload_n hx hb dX8_countOnRoad_10 rfl (lv_at hl 1 rfl) ?_
        refine lv_aload_n hx hb dX8_countOnRoad_11 rfl (lv_at hl 0 rfl) ?_
        refine va_get (D := D) (ci := 8) (v := .ref (ad 10)) (C := RX8) (T := TX8) (N := 7) hx hb hts iX8 hown hK hP 1 rfl rfl 0 (by decide) hf9 (fun _ h9 => h9) rfl dX8_countOnRoad_12 ?_
        refine lv_iload_n hx hb dX8_countOnRoad_15 rfl (lv_at hl 2 rfl) ?_
        obtain ⟨b2, h⟩ := gx_in h
        refine va_iald (D := D) hx hb hK hP 10 0 rfl rfl b2 dX8_countOnRoad_16 ?_
        refine lv_iadd hx hb dX8_countOnRoad_17 ?_
        obtain ⟨v3, ev3, h⟩ := gx_let h
        refine lv_topn ev3 ?_
        refine lv_istore_n (lv' := [(1, .int v3), (0, .ref (ad 1)), (2, .int x2_4)]) hx hb dX8_countOnRoad_18 rfl hl (by decide) rfl (fun ls hl => ?_)
        obtain ⟨v4, ev4, h⟩ := gx_let h
        refine lv_iinc (v := v4) (lv' := [(2, .int v4), (1, .int v3), (0, .ref (ad 1))]) hx hb dX8_countOnRoad_19 hl (k := 2) rfl (by rw [← ev4]; rfl) (by decide) rfl (fun ls hl => ?_)
        refine lv_goto (tgt := 4) hx hb dX8_countOnRoad_22 (by decide) ?_
        exact ih v3 v4 _ _ _ h hP hD hS (lv_sub hl [2, 1, 0] rfl)
  refine hL4 _ (fun x1_4 H locs ls h hP hD hS hl => ?_) FU (0 : Int32) (0 : Int32) _ _ _ h hP hD hS (lv_sub hl [2, 1, 0] rfl)
  refine lv_iload_n hx hb dX8_countOnRoad_25 rfl (lv_at hl 0 rfl) ?_
  cases h
  exact cc_ret hx hb hr rfl hQ hK hP hD hS rfl dX8_countOnRoad_26 hlocks

def rX8_isStoppedAt : Room := { frames := 1, cells := 0, slots := 0, locals := 22 }
set_option maxHeartbeats 4000000 in
set_option maxRecDepth 100000 in
theorem k_X8_isStoppedAt (l : Launch) (D : va_G) (cI cZ : ClassId) (ad : Nat → Nat) (u : GS) (p0 : Int32) {r : Int32} (h : g_X8_isStoppedAt u p0 = some r) : MI l yX8_isStoppedAt (wm yX8_isStoppedAt cX8_isStoppedAt 2 (some .boolean)) rX8_isStoppedAt D [(cI, .int), (cZ, .boolean)] (wC cI cZ ad u) (wC cI cZ ad u) [.ref (ad 1), .int p0] r := by
  intro sz
  refine Met.ofW (cc := cX8_isStoppedAt) (maxL := 2) (ret := (some .boolean)) (by decide) rfl ?_
  intro p e s m args below meth c s₁ B hml hv
  obtain ⟨rfl, hsz, hP, hK, hD0, hZ⟩ := hv
  have hx := B.exec
  have hb := B.bytes
  have hr := B.returns
  have hts : ∀ w ∈ Wall, w.before _ s = true := fun w hw => atoms_spec (ws := wm yX8_isStoppedAt cX8_isStoppedAt 2 (some .boolean)) B.pre w (List.mem_cons_of_mem _ hw)
  have hown : s.vm.findClass RX8 = some m.cls := findClass_of_methodNamed B.named
  have hlocks := B.notSynchronized
  subst hsz
  have hD := hD0.self (sz := s.heap.size)
  generalize hAe : va_A (wC cI cZ ad u) s.heap.size = A at hD hZ ⊢
  have hA : ∀ q : Nat, s.heap.size ≤ q → A q := fun q h => by rw [← hAe]; exact Or.inr h
  have hS : va_S A s.heap s.heap [] := va_S.rf
  have hf15 := hts _ mw_82
  have hl := lv_entry ([.ref (ad 1), .int p0]) (n := 2) (Nat.le_of_ble_eq_true rfl)
  rw [lg_entry_eq]
  generalize (lg_sl ([.ref (ad 1), .int p0]) ++ List.replicate (2 - (lg_sl ([.ref (ad 1), .int p0])).length) Slot.unset).toArray = ls at hl ⊢
  replace hl : lv_has ls 2 [(0, .ref (ad 1)), (1, .int p0)] := hl
  refine w_gen (fun Q hQ => ?_)
  refine lv_iload_n hx hb dX8_isStoppedAt_0 rfl (lv_at hl 1 rfl) ?_
  refine lv_iconst (v := 0) hx hb dX8_isStoppedAt_1 (by decide) ?_
  refine lv_bipush (v := 47) hx hb dX8_isStoppedAt_2 (by decide) ?_
  obtain ⟨y1, hc2, h⟩ := gx_bind h
  refine cc_iSN (As := [.int p0, .int (0 : Int32), .int (47 : Int32)]) (rest := []) ⟨hx, hb, hml, hown, hts⟩ (k_X9_isWithin l D cI cZ ad u p0 (0 : Int32) (47 : Int32) hc2) ⟨va_cnB 3 hts (gwM mw_274) rfl rfl rfl (hZ.1 ("RedcrossGantry$Traffic", 39, yX9_isWithin) (by decide +kernel)) (hts _ mw_48) (by decide +kernel) ⟨Nat.le_of_ble_eq_true rfl, Nat.le_of_ble_eq_true rfl⟩, hts _ mw_273, trivial⟩ hK hP hD hS hA hZ rfl hl.1 rfl (Nat.le_of_ble_eq_true rfl) dX8_isStoppedAt_4 ⟨Nat.zero_le _, Nat.zero_le _⟩ (fun H locs hP hD hS => ?_)
  refine lv_if_eq (tgt := 23) hx hb dX8_isStoppedAt_7 (by decide) (fun c3 => ?_) (fun c3 => ?_)
  · replace h := gx_t c3 h
    refine lv_iconst (v := 0) hx hb dX8_isStoppedAt_23 (by decide) ?_
    cases h
    exact cc_ret hx hb hr rfl hQ hK hP hD hS rfl dX8_isStoppedAt_24 hlocks
  · replace h := gx_f c3 h
    refine lv_aload_n hx hb dX8_isStoppedAt_10 rfl (lv_at hl 0 rfl) ?_
    refine va_get (D := D) (ci := 8) (v := .ref (ad 11)) (C := RX8) (T := TX8) (N := 7) hx hb hts iX8 hown hK hP 1 rfl rfl 1 (by decide) hf15 (fun _ h9 => h9) rfl dX8_isStoppedAt_11 ?_
    refine lv_iload_n hx hb dX8_isStoppedAt_14 rfl (lv_at hl 1 rfl) ?_
    obtain ⟨b4, h⟩ := gx_in h
    refine va_zald (D := D) hx hb hK hP 11 1 rfl rfl b4 dX8_isStoppedAt_15 ?_
    refine lv_if_eq (tgt := 23) hx hb dX8_isStoppedAt_16 (by decide) (fun c5 => ?_) (fun c5 => ?_)
    · replace h := gx_t c5 h
      refine lv_iconst (v := 0) hx hb dX8_isStoppedAt_23 (by decide) ?_
      cases h
      exact cc_ret hx hb hr rfl hQ hK hP hD hS rfl dX8_isStoppedAt_24 hlocks
    · replace h := gx_f c5 h
      refine lv_iconst (v := 1) hx hb dX8_isStoppedAt_19 (by decide) ?_
      refine lv_goto (tgt := 24) hx hb dX8_isStoppedAt_20 (by decide) ?_
      cases h
      exact cc_ret hx hb hr rfl hQ hK hP hD hS rfl dX8_isStoppedAt_24 hlocks

def rX8_heldAt : Room := { frames := 1, cells := 0, slots := 0, locals := 22 }
set_option maxHeartbeats 4000000 in
set_option maxRecDepth 100000 in
theorem k_X8_heldAt (l : Launch) (D : va_G) (cI cZ : ClassId) (ad : Nat → Nat) (u : GS) (p0 : Int32) {r : Int32} (h : g_X8_heldAt u p0 = some r) : MI l yX8_heldAt (wm yX8_heldAt cX8_heldAt 2 (some .int)) rX8_heldAt D [(cI, .int), (cZ, .boolean)] (wC cI cZ ad u) (wC cI cZ ad u) [.ref (ad 1), .int p0] r := by
  intro sz
  refine Met.ofW (cc := cX8_heldAt) (maxL := 2) (ret := (some .int)) (by decide) rfl ?_
  intro p e s m args below meth c s₁ B hml hv
  obtain ⟨rfl, hsz, hP, hK, hD0, hZ⟩ := hv
  have hx := B.exec
  have hb := B.bytes
  have hr := B.returns
  have hts : ∀ w ∈ Wall, w.before _ s = true := fun w hw => atoms_spec (ws := wm yX8_heldAt cX8_heldAt 2 (some .int)) B.pre w (List.mem_cons_of_mem _ hw)
  have hown : s.vm.findClass RX8 = some m.cls := findClass_of_methodNamed B.named
  have hlocks := B.notSynchronized
  subst hsz
  have hD := hD0.self (sz := s.heap.size)
  generalize hAe : va_A (wC cI cZ ad u) s.heap.size = A at hD hZ ⊢
  have hA : ∀ q : Nat, s.heap.size ≤ q → A q := fun q h => by rw [← hAe]; exact Or.inr h
  have hS : va_S A s.heap s.heap [] := va_S.rf
  have hf9 := hts _ mw_80
  have hl := lv_entry ([.ref (ad 1), .int p0]) (n := 2) (Nat.le_of_ble_eq_true rfl)
  rw [lg_entry_eq]
  generalize (lg_sl ([.ref (ad 1), .int p0]) ++ List.replicate (2 - (lg_sl ([.ref (ad 1), .int p0])).length) Slot.unset).toArray = ls at hl ⊢
  replace hl : lv_has ls 2 [(0, .ref (ad 1)), (1, .int p0)] := hl
  refine w_gen (fun Q hQ => ?_)
  refine lv_iload_n hx hb dX8_heldAt_0 rfl (lv_at hl 1 rfl) ?_
  refine lv_iconst (v := 0) hx hb dX8_heldAt_1 (by decide) ?_
  refine lv_bipush (v := 47) hx hb dX8_heldAt_2 (by decide) ?_
  obtain ⟨y1, hc2, h⟩ := gx_bind h
  refine cc_iSN (As := [.int p0, .int (0 : Int32), .int (47 : Int32)]) (rest := []) ⟨hx, hb, hml, hown, hts⟩ (k_X9_isWithin l D cI cZ ad u p0 (0 : Int32) (47 : Int32) hc2) ⟨va_cnB 3 hts (gwM mw_274) rfl rfl rfl (hZ.1 ("RedcrossGantry$Traffic", 39, yX9_isWithin) (by decide +kernel)) (hts _ mw_48) (by decide +kernel) ⟨Nat.le_of_ble_eq_true rfl, Nat.le_of_ble_eq_true rfl⟩, hts _ mw_273, trivial⟩ hK hP hD hS hA hZ rfl hl.1 rfl (Nat.le_of_ble_eq_true rfl) dX8_heldAt_4 ⟨Nat.zero_le _, Nat.zero_le _⟩ (fun H locs hP hD hS => ?_)
  refine lv_if_eq (tgt := 19) hx hb dX8_heldAt_7 (by decide) (fun c3 => ?_) (fun c3 => ?_)
  · replace h := gx_t c3 h
    refine lv_iconst (v := 0) hx hb dX8_heldAt_19 (by decide) ?_
    cases h
    exact cc_ret hx hb hr rfl hQ hK hP hD hS rfl dX8_heldAt_20 hlocks
  · replace h := gx_f c3 h
    refine lv_aload_n hx hb dX8_heldAt_10 rfl (lv_at hl 0 rfl) ?_
    refine va_get (D := D) (ci := 8) (v := .ref (ad 10)) (C := RX8) (T := TX8) (N := 7) hx hb hts iX8 hown hK hP 1 rfl rfl 0 (by decide) hf9 (fun _ h9 => h9) rfl dX8_heldAt_11 ?_
    refine lv_iload_n hx hb dX8_heldAt_14 rfl (lv_at hl 1 rfl) ?_
    obtain ⟨b4, h⟩ := gx_in h
    refine va_iald (D := D) hx hb hK hP 10 0 rfl rfl b4 dX8_heldAt_15 ?_
    refine lv_goto (tgt := 20) hx hb dX8_heldAt_16 (by decide) ?_
    cases h
    exact cc_ret hx hb hr rfl hQ hK hP hD hS rfl dX8_heldAt_20 hlocks

def rX8_isClear : Room := { frames := 2, cells := 0, slots := 0, locals := 43 }
set_option maxHeartbeats 4000000 in
set_option maxRecDepth 100000 in
theorem k_X8_isClear (l : Launch) (D : va_G) (cI cZ : ClassId) (ad : Nat → Nat) (u : GS) (p0 : Int32) {r : Int32} (h : g_X8_isClear u p0 = some r) : MI l yX8_isClear (wm yX8_isClear cX8_isClear 2 (some .boolean)) rX8_isClear D [(cI, .int), (cZ, .boolean)] (wC cI cZ ad u) (wC cI cZ ad u) [.ref (ad 1), .int p0] r := by
  intro sz
  refine Met.ofW (cc := cX8_isClear) (maxL := 2) (ret := (some .boolean)) (by decide) rfl ?_
  intro p e s m args below meth c s₁ B hml hv
  obtain ⟨rfl, hsz, hP, hK, hD0, hZ⟩ := hv
  have hx := B.exec
  have hb := B.bytes
  have hr := B.returns
  have hts : ∀ w ∈ Wall, w.before _ s = true := fun w hw => atoms_spec (ws := wm yX8_isClear cX8_isClear 2 (some .boolean)) B.pre w (List.mem_cons_of_mem _ hw)
  have hown : s.vm.findClass RX8 = some m.cls := findClass_of_methodNamed B.named
  have hlocks := B.notSynchronized
  subst hsz
  have hD := hD0.self (sz := s.heap.size)
  generalize hAe : va_A (wC cI cZ ad u) s.heap.size = A at hD hZ ⊢
  have hA : ∀ q : Nat, s.heap.size ≤ q → A q := fun q h => by rw [← hAe]; exact Or.inr h
  have hS : va_S A s.heap s.heap [] := va_S.rf
  have hl := lv_entry ([.ref (ad 1), .int p0]) (n := 2) (Nat.le_of_ble_eq_true rfl)
  rw [lg_entry_eq]
  generalize (lg_sl ([.ref (ad 1), .int p0]) ++ List.replicate (2 - (lg_sl ([.ref (ad 1), .int p0])).length) Slot.unset).toArray = ls at hl ⊢
  replace hl : lv_has ls 2 [(0, .ref (ad 1)), (1, .int p0)] := hl
  refine w_gen (fun Q hQ => ?_)
  refine lv_aload_n hx hb dX8_isClear_0 rfl (lv_at hl 0 rfl) ?_
  refine lv_iload_n hx hb dX8_isClear_1 rfl (lv_at hl 1 rfl) ?_
  obtain ⟨y1, hc2, h⟩ := gx_bind h
  refine cc_iV (As := [.int p0]) (rest := []) ⟨hx, hb, hml, hown, hts⟩ (k_X8_isStoppedAt l D cI cZ ad u p0 hc2) (cwV 1 hts (gwV mw_533 mw_534 mw_535 mw_49 mw_536) rfl rfl rfl (by decide +kernel) ⟨Nat.le_of_ble_eq_true rfl, Nat.le_of_ble_eq_true rfl⟩) hK hP hD hS hA hZ (ci := 8) (q0 := 1) rfl rfl rfl hl.1 rfl (Nat.le_of_ble_eq_true rfl) dX8_isClear_2 ⟨Nat.zero_le _, Nat.zero_le _⟩ (fun H locs hP hD hS => ?_)
  refine lv_if_ne (tgt := 20) hx hb dX8_isClear_5 (by decide) (fun c3 => ?_) (fun c3 => ?_)
  · replace h := gx_f c3 h
    refine lv_iconst (v := 0) hx hb dX8_isClear_20 (by decide) ?_
    cases h
    exact cc_ret hx hb hr rfl hQ hK hP hD hS rfl dX8_isClear_21 hlocks
  · replace h := gx_t c3 h
    refine lv_aload_n hx hb dX8_isClear_8 rfl (lv_at hl 0 rfl) ?_
    refine lv_iload_n hx hb dX8_isClear_9 rfl (lv_at hl 1 rfl) ?_
    obtain ⟨y4, hc5, h⟩ := gx_bind h
    refine cc_iV (As := [.int p0]) (rest := []) ⟨hx, hb, hml, hown, hts⟩ (k_X8_heldAt l D cI cZ ad u p0 hc5) (cwV 1 hts (gwV mw_525 mw_527 mw_7 mw_49 mw_528) rfl rfl rfl (by decide +kernel) ⟨Nat.le_of_ble_eq_true rfl, Nat.le_of_ble_eq_true rfl⟩) hK hP hD hS hA hZ (ci := 8) (q0 := 1) rfl rfl rfl hl.1 rfl (Nat.le_of_ble_eq_true rfl) dX8_isClear_10 ⟨Nat.zero_le _, Nat.zero_le _⟩ (fun H locs hP hD hS => ?_)
    refine lv_if_ne (tgt := 20) hx hb dX8_isClear_13 (by decide) (fun c6 => ?_) (fun c6 => ?_)
    · replace h := gx_f c6 h
      refine lv_iconst (v := 0) hx hb dX8_isClear_20 (by decide) ?_
      cases h
      exact cc_ret hx hb hr rfl hQ hK hP hD hS rfl dX8_isClear_21 hlocks
    · replace h := gx_t c6 h
      refine lv_iconst (v := 1) hx hb dX8_isClear_16 (by decide) ?_
      refine lv_goto (tgt := 21) hx hb dX8_isClear_17 (by decide) ?_
      cases h
      exact cc_ret hx hb hr rfl hQ hK hP hD hS rfl dX8_isClear_21 hlocks

def rX8_clearStopped : Room := { frames := 1, cells := 0, slots := 0, locals := 22 }
set_option maxHeartbeats 4000000 in
set_option maxRecDepth 100000 in
theorem k_X8_clearStopped (l : Launch) (D : va_G) (cI cZ : ClassId) (ad : Nat → Nat) (u : GS) (p0 : Int32) {w' : GS} (h : g_X8_clearStopped u p0 = some w') : MV l yX8_clearStopped (wm yX8_clearStopped cX8_clearStopped 2 none) rX8_clearStopped D [(cI, .int), (cZ, .boolean)] (wC cI cZ ad u) (wC cI cZ ad w') [.ref (ad 1), .int p0] := by
  intro sz
  refine Met.ofW (cc := cX8_clearStopped) (maxL := 2) (ret := none) (by decide) rfl ?_
  intro p e s m args below meth c s₁ B hml hv
  obtain ⟨rfl, hsz, hP, hK, hD0, hZ⟩ := hv
  have hx := B.exec
  have hb := B.bytes
  have hr := B.returns
  have hts : ∀ w ∈ Wall, w.before _ s = true := fun w hw => atoms_spec (ws := wm yX8_clearStopped cX8_clearStopped 2 none) B.pre w (List.mem_cons_of_mem _ hw)
  have hown : s.vm.findClass RX8 = some m.cls := findClass_of_methodNamed B.named
  have hlocks := B.notSynchronized
  subst hsz
  have hD := hD0.self (sz := s.heap.size)
  generalize hAe : va_A (wC cI cZ ad u) s.heap.size = A at hD hZ ⊢
  have hA : ∀ q : Nat, s.heap.size ≤ q → A q := fun q h => by rw [← hAe]; exact Or.inr h
  have hS : va_S A s.heap s.heap [] := va_S.rf
  have hf15 := hts _ mw_82
  have hl := lv_entry ([.ref (ad 1), .int p0]) (n := 2) (Nat.le_of_ble_eq_true rfl)
  rw [lg_entry_eq]
  generalize (lg_sl ([.ref (ad 1), .int p0]) ++ List.replicate (2 - (lg_sl ([.ref (ad 1), .int p0])).length) Slot.unset).toArray = ls at hl ⊢
  replace hl : lv_has ls 2 [(0, .ref (ad 1)), (1, .int p0)] := hl
  refine w_gen (fun Q hQ => ?_)
  refine lv_iload_n hx hb dX8_clearStopped_0 rfl (lv_at hl 1 rfl) ?_
  refine lv_iconst (v := 0) hx hb dX8_clearStopped_1 (by decide) ?_
  refine lv_bipush (v := 47) hx hb dX8_clearStopped_2 (by decide) ?_
  obtain ⟨y1, hc2, h⟩ := gx_bind h
  refine cc_iSN (As := [.int p0, .int (0 : Int32), .int (47 : Int32)]) (rest := []) ⟨hx, hb, hml, hown, hts⟩ (k_X9_isWithin l D cI cZ ad u p0 (0 : Int32) (47 : Int32) hc2) ⟨va_cnB 3 hts (gwM mw_274) rfl rfl rfl (hZ.1 ("RedcrossGantry$Traffic", 39, yX9_isWithin) (by decide +kernel)) (hts _ mw_48) (by decide +kernel) ⟨Nat.le_of_ble_eq_true rfl, Nat.le_of_ble_eq_true rfl⟩, hts _ mw_273, trivial⟩ hK hP hD hS hA hZ rfl hl.1 rfl (Nat.le_of_ble_eq_true rfl) dX8_clearStopped_4 ⟨Nat.zero_le _, Nat.zero_le _⟩ (fun H locs hP hD hS => ?_)
  refine lv_if_eq (tgt := 17) hx hb dX8_clearStopped_7 (by decide) (fun c3 => ?_) (fun c3 => ?_)
  · replace h := gx_t c3 h
    cases h
    exact cc_vret hx hb hr hQ hK hP hD hS dX8_clearStopped_17 hlocks
  · replace h := gx_f c3 h
    refine lv_aload_n hx hb dX8_clearStopped_10 rfl (lv_at hl 0 rfl) ?_
    refine va_get (D := D) (ci := 8) (v := .ref (ad 11)) (C := RX8) (T := TX8) (N := 7) hx hb hts iX8 hown hK hP 1 rfl rfl 1 (by decide) hf15 (fun _ h9 => h9) rfl dX8_clearStopped_11 ?_
    refine lv_iload_n hx hb dX8_clearStopped_14 rfl (lv_at hl 1 rfl) ?_
    refine lv_iconst (v := 0) hx hb dX8_clearStopped_15 (by decide) ?_
    obtain ⟨b4, h⟩ := gx_in h
    refine va_zast (D := D) hx hb hK hP hD hS 11 1 rfl rfl b4 dX8_clearStopped_16 (fun H locs hP hD hS => ?_)
    obtain ⟨u5, eu5, h⟩ := gx_let h
    replace hP : va_P D vwCl (wC cI cZ ad u5) H := by rw [← eu5]; exact hP
    replace hD : va_D A (wC cI cZ ad u5) := by rw [← eu5]; exact hD
    cases h
    exact cc_vret hx hb hr hQ hK hP hD hS dX8_clearStopped_17 hlocks

def rX8_mostThatGoOn : Room := { frames := 2, cells := 0, slots := 0, locals := 43 }
set_option maxHeartbeats 4000000 in
set_option maxRecDepth 100000 in
theorem k_X8_mostThatGoOn (l : Launch) (D : va_G) (cI cZ : ClassId) (ad : Nat → Nat) (u : GS) (p0 : Int32) (p1 : Int32) {r : Int32} (h : g_X8_mostThatGoOn u p0 p1 = some r) : MI l yX8_mostThatGoOn (wm yX8_mostThatGoOn cX8_mostThatGoOn 3 (some .int)) rX8_mostThatGoOn D [(cI, .int), (cZ, .boolean)] (wC cI cZ ad u) (wC cI cZ ad u) [.ref (ad 1), .int p0, .int p1] r := by
  intro sz
  refine Met.ofW (cc := cX8_mostThatGoOn) (maxL := 3) (ret := (some .int)) (by decide) rfl ?_
  intro p e s m args below meth c s₁ B hml hv
  obtain ⟨rfl, hsz, hP, hK, hD0, hZ⟩ := hv
  have hx := B.exec
  have hb := B.bytes
  have hr := B.returns
  have hts : ∀ w ∈ Wall, w.before _ s = true := fun w hw => atoms_spec (ws := wm yX8_mostThatGoOn cX8_mostThatGoOn 3 (some .int)) B.pre w (List.mem_cons_of_mem _ hw)
  have hown : s.vm.findClass RX8 = some m.cls := findClass_of_methodNamed B.named
  have hlocks := B.notSynchronized
  subst hsz
  have hD := hD0.self (sz := s.heap.size)
  generalize hAe : va_A (wC cI cZ ad u) s.heap.size = A at hD hZ ⊢
  have hA : ∀ q : Nat, s.heap.size ≤ q → A q := fun q h => by rw [← hAe]; exact Or.inr h
  have hS : va_S A s.heap s.heap [] := va_S.rf
  have hf19 := hts _ mw_84
  have hl := lv_entry ([.ref (ad 1), .int p0, .int p1]) (n := 3) (Nat.le_of_ble_eq_true rfl)
  rw [lg_entry_eq]
  generalize (lg_sl ([.ref (ad 1), .int p0, .int p1]) ++ List.replicate (3 - (lg_sl ([.ref (ad 1), .int p0, .int p1])).length) Slot.unset).toArray = ls at hl ⊢
  replace hl : lv_has ls 3 [(0, .ref (ad 1)), (1, .int p0), (2, .int p1)] := hl
  refine w_gen (fun Q hQ => ?_)
  refine lv_aload_n hx hb dX8_mostThatGoOn_0 rfl (lv_at hl 0 rfl) ?_
  refine lv_iload_n hx hb dX8_mostThatGoOn_1 rfl (lv_at hl 2 rfl) ?_
  obtain ⟨y1, hc2, h⟩ := gx_bind h
  refine cc_iV (As := [.int p1]) (rest := []) ⟨hx, hb, hml, hown, hts⟩ (k_X8_isStoppedAt l D cI cZ ad u p1 hc2) (cwV 1 hts (gwV mw_533 mw_534 mw_535 mw_49 mw_536) rfl rfl rfl (by decide +kernel) ⟨Nat.le_of_ble_eq_true rfl, Nat.le_of_ble_eq_true rfl⟩) hK hP hD hS hA hZ (ci := 8) (q0 := 1) rfl rfl rfl hl.1 rfl (Nat.le_of_ble_eq_true rfl) dX8_mostThatGoOn_2 ⟨Nat.zero_le _, Nat.zero_le _⟩ (fun H locs hP hD hS => ?_)
  refine lv_if_eq (tgt := 10) hx hb dX8_mostThatGoOn_5 (by decide) (fun c3 => ?_) (fun c3 => ?_)
  · replace h := gx_t c3 h
    refine lv_aload_n hx hb dX8_mostThatGoOn_10 rfl (lv_at hl 0 rfl) ?_
    refine va_get (D := D) (ci := 8) (v := .ref (ad 12)) (C := RX8) (T := TX8) (N := 7) hx hb hts iX8 hown hK hP 1 rfl rfl 2 (by decide) hf19 (fun _ h9 => h9) rfl dX8_mostThatGoOn_11 ?_
    refine lv_iload_n hx hb dX8_mostThatGoOn_14 rfl (lv_at hl 1 rfl) ?_
    obtain ⟨b4, h⟩ := gx_in h
    refine va_zald (D := D) hx hb hK hP 12 1 rfl rfl b4 dX8_mostThatGoOn_15 ?_
    refine lv_if_eq (tgt := 24) hx hb dX8_mostThatGoOn_16 (by decide) (fun c5 => ?_) (fun c5 => ?_)
    · replace h := gx_t c5 h
      refine lv_bipush (v := 8) hx hb dX8_mostThatGoOn_24 (by decide) ?_
      cases h
      exact cc_ret hx hb hr rfl hQ hK hP hD hS rfl dX8_mostThatGoOn_26 hlocks
    · replace h := gx_f c5 h
      refine lv_bipush (v := 6) hx hb dX8_mostThatGoOn_19 (by decide) ?_
      refine lv_goto (tgt := 26) hx hb dX8_mostThatGoOn_21 (by decide) ?_
      cases h
      exact cc_ret hx hb hr rfl hQ hK hP hD hS rfl dX8_mostThatGoOn_26 hlocks
  · replace h := gx_f c3 h
    refine lv_iconst (v := 0) hx hb dX8_mostThatGoOn_8 (by decide) ?_
    cases h
    exact cc_ret hx hb hr rfl hQ hK hP hD hS rfl dX8_mostThatGoOn_9 hlocks

def rX8_letsIn : Room := { frames := 1, cells := 0, slots := 0, locals := 22 }
set_option maxHeartbeats 4000000 in
set_option maxRecDepth 100000 in
theorem k_X8_letsIn (l : Launch) (D : va_G) (cI cZ : ClassId) (ad : Nat → Nat) (u : GS) (p0 : Int32) {r : Int32} (h : g_X8_letsIn u p0 = some r) : MI l yX8_letsIn (wm yX8_letsIn cX8_letsIn 3 (some .boolean)) rX8_letsIn D [(cI, .int), (cZ, .boolean)] (wC cI cZ ad u) (wC cI cZ ad u) [.ref (ad 1), .int p0, .ref (ad 20)] r := by
  intro sz
  refine Met.ofW (cc := cX8_letsIn) (maxL := 3) (ret := (some .boolean)) (by decide) rfl ?_
  intro p e s m args below meth c s₁ B hml hv
  obtain ⟨rfl, hsz, hP, hK, hD0, hZ⟩ := hv
  have hx := B.exec
  have hb := B.bytes
  have hr := B.returns
  have hts : ∀ w ∈ Wall, w.before _ s = true := fun w hw => atoms_spec (ws := wm yX8_letsIn cX8_letsIn 3 (some .boolean)) B.pre w (List.mem_cons_of_mem _ hw)
  have hown : s.vm.findClass RX8 = some m.cls := findClass_of_methodNamed B.named
  have hlocks := B.notSynchronized
  subst hsz
  have hD := hD0.self (sz := s.heap.size)
  generalize hAe : va_A (wC cI cZ ad u) s.heap.size = A at hD hZ ⊢
  have hA : ∀ q : Nat, s.heap.size ≤ q → A q := fun q h => by rw [← hAe]; exact Or.inr h
  have hS : va_S A s.heap s.heap [] := va_S.rf
  have hf9 := hts _ mw_80
  have hl := lv_entry ([.ref (ad 1), .int p0, .ref (ad 20)]) (n := 3) (Nat.le_of_ble_eq_true rfl)
  rw [lg_entry_eq]
  generalize (lg_sl ([.ref (ad 1), .int p0, .ref (ad 20)]) ++ List.replicate (3 - (lg_sl ([.ref (ad 1), .int p0, .ref (ad 20)])).length) Slot.unset).toArray = ls at hl ⊢
  replace hl : lv_has ls 3 [(0, .ref (ad 1)), (1, .int p0), (2, .ref (ad 20))] := hl
  refine w_gen (fun Q hQ => ?_)
  refine lv_iload_n hx hb dX8_letsIn_0 rfl (lv_at hl 1 rfl) ?_
  refine lv_iconst (v := 0) hx hb dX8_letsIn_1 (by decide) ?_
  refine lv_bipush (v := 47) hx hb dX8_letsIn_2 (by decide) ?_
  obtain ⟨y1, hc2, h⟩ := gx_bind h
  refine cc_iSN (As := [.int p0, .int (0 : Int32), .int (47 : Int32)]) (rest := []) ⟨hx, hb, hml, hown, hts⟩ (k_X9_isWithin l D cI cZ ad u p0 (0 : Int32) (47 : Int32) hc2) ⟨va_cnB 3 hts (gwM mw_274) rfl rfl rfl (hZ.1 ("RedcrossGantry$Traffic", 39, yX9_isWithin) (by decide +kernel)) (hts _ mw_48) (by decide +kernel) ⟨Nat.le_of_ble_eq_true rfl, Nat.le_of_ble_eq_true rfl⟩, hts _ mw_273, trivial⟩ hK hP hD hS hA hZ rfl hl.1 rfl (Nat.le_of_ble_eq_true rfl) dX8_letsIn_4 ⟨Nat.zero_le _, Nat.zero_le _⟩ (fun H locs hP hD hS => ?_)
  refine lv_if_eq (tgt := 32) hx hb dX8_letsIn_7 (by decide) (fun c3 => ?_) (fun c3 => ?_)
  · replace h := gx_t c3 h
    refine lv_iconst (v := 0) hx hb dX8_letsIn_32 (by decide) ?_
    cases h
    exact cc_ret hx hb hr rfl hQ hK hP hD hS rfl dX8_letsIn_33 hlocks
  · replace h := gx_f c3 h
    refine lv_aload_n hx hb dX8_letsIn_10 rfl (lv_at hl 2 rfl) ?_
    refine lv_iload_n hx hb dX8_letsIn_11 rfl (lv_at hl 1 rfl) ?_
    obtain ⟨b4, h⟩ := gx_in h
    refine va_iald (D := D) hx hb hK hP 20 0 rfl rfl b4 dX8_letsIn_12 ?_
    refine lv_iconst (v := 2) hx hb dX8_letsIn_13 (by decide) ?_
    refine lv_icmp_eq (tgt := 32) hx hb dX8_letsIn_14 (by decide) (fun c5 => ?_) (fun c5 => ?_)
    · replace h := gx_t c5 h
      refine lv_iconst (v := 0) hx hb dX8_letsIn_32 (by decide) ?_
      cases h
      exact cc_ret hx hb hr rfl hQ hK hP hD hS rfl dX8_letsIn_33 hlocks
    · replace h := gx_f c5 h
      refine lv_aload_n hx hb dX8_letsIn_17 rfl (lv_at hl 0 rfl) ?_
      refine va_get (D := D) (ci := 8) (v := .ref (ad 10)) (C := RX8) (T := TX8) (N := 7) hx hb hts iX8 hown hK hP 1 rfl rfl 0 (by decide) hf9 (fun _ h9 => h9) rfl dX8_letsIn_18 ?_
      refine lv_iload_n hx hb dX8_letsIn_21 rfl (lv_at hl 1 rfl) ?_
      obtain ⟨b6, h⟩ := gx_in h
      refine va_iald (D := D) hx hb hK hP 10 0 rfl rfl b6 dX8_letsIn_22 ?_
      refine lv_bipush (v := 20) hx hb dX8_letsIn_23 (by decide) ?_
      refine lv_icmp_ge (tgt := 32) hx hb dX8_letsIn_25 (by decide) (fun c7 => ?_) (fun c7 => ?_)
      · replace h := gx_t c7 h
        refine lv_iconst (v := 0) hx hb dX8_letsIn_32 (by decide) ?_
        cases h
        exact cc_ret hx hb hr rfl hQ hK hP hD hS rfl dX8_letsIn_33 hlocks
      · replace h := gx_f c7 h
        refine lv_iconst (v := 1) hx hb dX8_letsIn_28 (by decide) ?_
        refine lv_goto (tgt := 33) hx hb dX8_letsIn_29 (by decide) ?_
        cases h
        exact cc_ret hx hb hr rfl hQ hK hP hD hS rfl dX8_letsIn_33 hlocks

def rX8_placeToGoTo : Room := { frames := 2, cells := 0, slots := 0, locals := 44 }
set_option maxHeartbeats 4000000 in
set_option maxRecDepth 100000 in
theorem k_X8_placeToGoTo (l : Launch) (D : va_G) (cI cZ : ClassId) (ad : Nat → Nat) (u : GS) (p0 : Int32) (p1 : Int32) {r : Int32} (h : g_X8_placeToGoTo u p0 p1 = some r) : MI l yX8_placeToGoTo (wm yX8_placeToGoTo cX8_placeToGoTo 7 (some .int)) rX8_placeToGoTo D [(cI, .int), (cZ, .boolean)] (wC cI cZ ad u) (wC cI cZ ad u) [.ref (ad 1), .int p0, .int p1, .ref (ad 20)] r := by
  intro sz
  refine Met.ofW (cc := cX8_placeToGoTo) (maxL := 7) (ret := (some .int)) (by decide) rfl ?_
  intro p e s m args below meth c s₁ B hml hv
  obtain ⟨rfl, hsz, hP, hK, hD0, hZ⟩ := hv
  have hx := B.exec
  have hb := B.bytes
  have hr := B.returns
  have hts : ∀ w ∈ Wall, w.before _ s = true := fun w hw => atoms_spec (ws := wm yX8_placeToGoTo cX8_placeToGoTo 7 (some .int)) B.pre w (List.mem_cons_of_mem _ hw)
  have hown : s.vm.findClass RX8 = some m.cls := findClass_of_methodNamed B.named
  have hlocks := B.notSynchronized
  subst hsz
  have hD := hD0.self (sz := s.heap.size)
  generalize hAe : va_A (wC cI cZ ad u) s.heap.size = A at hD hZ ⊢
  have hA : ∀ q : Nat, s.heap.size ≤ q → A q := fun q h => by rw [← hAe]; exact Or.inr h
  have hS : va_S A s.heap s.heap [] := va_S.rf
  obtain ⟨t1, hz_t1, ht_t1⟩ := hZ.2.1
  obtain ⟨t2, hz_t2, ht_t2⟩ := hZ.2.2.1
  have hf77 := hts _ mw_546
  have hf74 := hts _ mw_544
  have hl := lv_entry ([.ref (ad 1), .int p0, .int p1, .ref (ad 20)]) (n := 7) (Nat.le_of_ble_eq_true rfl)
  rw [lg_entry_eq]
  generalize (lg_sl ([.ref (ad 1), .int p0, .int p1, .ref (ad 20)]) ++ List.replicate (7 - (lg_sl ([.ref (ad 1), .int p0, .int p1, .ref (ad 20)])).length) Slot.unset).toArray = ls at hl ⊢
  replace hl : lv_has ls 7 [(0, .ref (ad 1)), (1, .int p0), (2, .int p1), (3, .ref (ad 20))] := hl
  refine w_gen (fun Q hQ => ?_)
  refine lv_aload_n hx hb dX8_placeToGoTo_0 rfl (lv_at hl 3 rfl) ?_
  refine lv_iload_n hx hb dX8_placeToGoTo_1 rfl (lv_at hl 1 rfl) ?_
  refine lv_iload_n hx hb dX8_placeToGoTo_2 rfl (lv_at hl 2 rfl) ?_
  obtain ⟨y1, hc2, h⟩ := gx_bind h
  refine cc_iSN (As := [.int p0, .int p1]) (rest := [.ref (ad 20)]) ⟨hx, hb, hml, hown, hts⟩ (k_X9_placeOf l D cI cZ ad u p0 p1 hc2) ⟨va_cnB 2 hts (gwM mw_267) rfl rfl rfl (hZ.1 ("RedcrossGantry$Traffic", 58, yX9_placeOf) (by decide +kernel)) (hts _ mw_48) (by decide +kernel) ⟨Nat.le_of_ble_eq_true rfl, Nat.le_of_ble_eq_true rfl⟩, hts _ mw_266, trivial⟩ hK hP hD hS hA hZ rfl hl.1 rfl (Nat.le_of_ble_eq_true rfl) dX8_placeToGoTo_3 ⟨Nat.zero_le _, Nat.zero_le _⟩ (fun H locs hP hD hS => ?_)
  obtain ⟨b3, h⟩ := gx_in h
  refine va_iald (D := D) hx hb hK hP 20 0 rfl rfl b3 dX8_placeToGoTo_6 ?_
  refine lv_if_ne (tgt := 16) hx hb dX8_placeToGoTo_7 (by decide) (fun c4 => ?_) (fun c4 => ?_)
  · replace h := gx_f c4 h
    refine va_gets hx hb hz_t2 hS hown hf77 (fun _ h9 => h9) dX8_placeToGoTo_16 ?_
    refine lv_astore (lv' := [(4, .ref t2), (0, .ref (ad 1)), (1, .int p0), (2, .int p1), (3, .ref (ad 20))]) hx hb dX8_placeToGoTo_19 hl (by decide) rfl (fun ls hl => ?_)
    refine lv_iconst (v := 0) hx hb dX8_placeToGoTo_21 (by decide) ?_
    refine lv_istore (lv' := [(5, .int (0 : Int32)), (4, .ref t2), (0, .ref (ad 1)), (1, .int p0), (2, .int p1), (3, .ref (ad 20))]) hx hb dX8_placeToGoTo_22 hl (by decide) rfl (fun ls hl => ?_)
    have hL24 : ∀ (k : Unit → Option (Int32)) (hk : ∀ (H : Heap) (locs : List Loc) (ls : Array Slot), k () = some r → va_P D vwCl (wC cI cZ ad u) H → va_D A (wC cI cZ ad u) → va_S A s.heap H locs → lv_has ls 7 [] → W p l e rX8_placeToGoTo s m ([.ref (ad 1), .int p0, .int p1, .ref (ad 20)] : List Value).toArray below meth c H locs 0 0 Q (F0 m 82 ls [])) (n : Nat) (x5_24 : Int32) (H : Heap) (locs : List Loc) (ls : Array Slot), lp_X8_placeToGoTo_24 u p0 p1 k n x5_24 = some r → va_P D vwCl (wC cI cZ ad u) H → va_D A (wC cI cZ ad u) → va_S A s.heap H locs → lv_has ls 7 [(0, .ref (ad 1)), (1, .int p0), (2, .int p1), (3, .ref (ad 20)), (4, .ref t2), (5, .int x5_24)] → W p l e rX8_placeToGoTo s m ([.ref (ad 1), .int p0, .int p1, .ref (ad 20)] : List Value).toArray below meth c H locs 0 0 Q (F0 m 24 ls []) := by
      intro k hk n
      induction n with
      | zero =>
        intro x5_24 H locs ls h
        rw [lp_X8_placeToGoTo_24] at h
        cases h
      | succ n ih =>
        intro x5_24 H locs ls h hP hD hS hl
        rw [lp_X8_placeToGoTo_24] at h
        refine lv_iload hx hb dX8_placeToGoTo_24 (lv_at hl 5 rfl) ?_
        refine lv_aload hx hb dX8_placeToGoTo_26 (lv_at hl 4 rfl) ?_
        refine va_tlen (v := 3) hx hb ht_t2 hS (by decide) dX8_placeToGoTo_28 ?_
        refine lv_icmp_ge (tgt := 82) hx hb dX8_placeToGoTo_29 (by decide) (fun c5 => ?_) (fun c5 => ?_)
        · replace h := gx_t c5 h
          exact hk _ _ _ h hP hD hS (lv_sub hl [] rfl)
        · replace h := gx_f c5 h
          refine lv_iload_n hx hb dX8_placeToGoTo_32 rfl (lv_at hl 2 rfl) ?_
          refine lv_aload hx hb dX8_placeToGoTo_33 (lv_at hl 4 rfl) ?_
          refine lv_iload hx hb dX8_placeToGoTo_35 (lv_at hl 5 rfl) ?_
          obtain ⟨b6, h⟩ := gx_in h
          refine va_ti hx hb ht_t2 hS b6 rfl dX8_placeToGoTo_37 ?_
          refine lv_iadd hx hb dX8_placeToGoTo_38 ?_
          obtain ⟨v7, ev7, h⟩ := gx_let h
          refine lv_topn ev7 ?_
          refine lv_istore (lv' := [(6, .int v7), (0, .ref (ad 1)), (1, .int p0), (2, .int p1), (3, .ref (ad 20)), (4, .ref t2), (5, .int x5_24)]) hx hb dX8_placeToGoTo_39 hl (by decide) rfl (fun ls hl => ?_)
          refine lv_iload hx hb dX8_placeToGoTo_41 (lv_at hl 0 rfl) ?_
          refine lv_iconst (v := 0) hx hb dX8_placeToGoTo_43 (by decide) ?_
          refine lv_iconst (v := 3) hx hb dX8_placeToGoTo_44 (by decide) ?_
          obtain ⟨y8, hc9, h⟩ := gx_bind h
          refine cc_iSN (As := [.int v7, .int (0 : Int32), .int (3 : Int32)]) (rest := []) ⟨hx, hb, hml, hown, hts⟩ (k_X9_isWithin l D cI cZ ad u v7 (0 : Int32) (3 : Int32) hc9) ⟨va_cnB 3 hts (gwM mw_274) rfl rfl rfl (hZ.1 ("RedcrossGantry$Traffic", 39, yX9_isWithin) (by decide +kernel)) (hts _ mw_48) (by decide +kernel) ⟨Nat.le_of_ble_eq_true rfl, Nat.le_of_ble_eq_true rfl⟩, hts _ mw_273, trivial⟩ hK hP hD hS hA hZ rfl hl.1 rfl (Nat.le_of_ble_eq_true rfl) dX8_placeToGoTo_45 ⟨Nat.zero_le _, Nat.zero_le _⟩ (fun H locs hP hD hS => ?_)
          refine lv_if_eq (tgt := 76) hx hb dX8_placeToGoTo_48 (by decide) (fun c10 => ?_) (fun c10 => ?_)
          · replace h := gx_t c10 h
            obtain ⟨v11, ev11, h⟩ := gx_let h
            refine lv_iinc (v := v11) (lv' := [(5, .int v11), (6, .int v7), (0, .ref (ad 1)), (1, .int p0), (2, .int p1), (3, .ref (ad 20)), (4, .ref t2)]) hx hb dX8_placeToGoTo_76 hl (k := 6) rfl (by rw [← ev11]; rfl) (by decide) rfl (fun ls hl => ?_)
            refine lv_goto (tgt := 24) hx hb dX8_placeToGoTo_79 (by decide) ?_
            exact ih v11 _ _ _ h hP hD hS (lv_sub hl [2, 3, 4, 5, 6, 0] rfl)
          · replace h := gx_f c10 h
            refine lv_aload_n hx hb dX8_placeToGoTo_51 rfl (lv_at hl 1 rfl) ?_
            refine lv_iload_n hx hb dX8_placeToGoTo_52 rfl (lv_at hl 2 rfl) ?_
            refine lv_iconst (v := 1) hx hb dX8_placeToGoTo_53 (by decide) ?_
            refine lv_iadd hx hb dX8_placeToGoTo_54 ?_
            refine lv_iload hx hb dX8_placeToGoTo_55 (lv_at hl 0 rfl) ?_
            obtain ⟨y12, hc13, h⟩ := gx_bind h
            refine cc_iSN (As := [.int (p0 + (1 : Int32)), .int v7]) (rest := [.ref (ad 1)]) ⟨hx, hb, hml, hown, hts⟩ (k_X9_placeOf l D cI cZ ad u (p0 + (1 : Int32)) v7 hc13) ⟨va_cnB 2 hts (gwM mw_267) rfl rfl rfl (hZ.1 ("RedcrossGantry$Traffic", 58, yX9_placeOf) (by decide +kernel)) (hts _ mw_48) (by decide +kernel) ⟨Nat.le_of_ble_eq_true rfl, Nat.le_of_ble_eq_true rfl⟩, hts _ mw_266, trivial⟩ hK hP hD hS hA hZ rfl hl.1 rfl (Nat.le_of_ble_eq_true rfl) dX8_placeToGoTo_57 ⟨Nat.zero_le _, Nat.zero_le _⟩ (fun H locs hP hD hS => ?_)
            refine lv_aload_n hx hb dX8_placeToGoTo_60 rfl (lv_at hl 4 rfl) ?_
            obtain ⟨y14, hc15, h⟩ := gx_bind h
            refine cc_iV (As := [.int y12, .ref (ad 20)]) (rest := []) ⟨hx, hb, hml, hown, hts⟩ (k_X8_letsIn l D cI cZ ad u y12 hc15) (cwV 2 hts (gwV mw_548 mw_550 mw_10 mw_49 mw_551) rfl rfl rfl (by decide +kernel) ⟨Nat.le_of_ble_eq_true rfl, Nat.le_of_ble_eq_true rfl⟩) hK hP hD hS hA hZ (ci := 8) (q0 := 1) rfl rfl rfl hl.1 rfl (Nat.le_of_ble_eq_true rfl) dX8_placeToGoTo_61 ⟨Nat.zero_le _, Nat.zero_le _⟩ (fun H locs hP hD hS => ?_)
            refine lv_if_eq (tgt := 76) hx hb dX8_placeToGoTo_64 (by decide) (fun c16 => ?_) (fun c16 => ?_)
            · replace h := gx_t c16 h
              obtain ⟨v17, ev17, h⟩ := gx_let h
              refine lv_iinc (v := v17) (lv' := [(5, .int v17), (6, .int v7), (0, .ref (ad 1)), (1, .int p0), (2, .int p1), (3, .ref (ad 20)), (4, .ref t2)]) hx hb dX8_placeToGoTo_76 hl (k := 6) rfl (by rw [← ev17]; rfl) (by decide) rfl (fun ls hl => ?_)
              refine lv_goto (tgt := 24) hx hb dX8_placeToGoTo_79 (by decide) ?_
              exact ih v17 _ _ _ h hP hD hS (lv_sub hl [2, 3, 4, 5, 6, 0] rfl)
            · replace h := gx_f c16 h
              refine lv_iload_n hx hb dX8_placeToGoTo_67 rfl (lv_at hl 2 rfl) ?_
              refine lv_iconst (v := 1) hx hb dX8_placeToGoTo_68 (by decide) ?_
              refine lv_iadd hx hb dX8_placeToGoTo_69 ?_
              refine lv_iload hx hb dX8_placeToGoTo_70 (lv_at hl 0 rfl) ?_
              obtain ⟨y18, hc19, h⟩ := gx_bind h
              refine cc_iSN (As := [.int (p0 + (1 : Int32)), .int v7]) (rest := []) ⟨hx, hb, hml, hown, hts⟩ (k_X9_placeOf l D cI cZ ad u (p0 + (1 : Int32)) v7 hc19) ⟨va_cnB 2 hts (gwM mw_267) rfl rfl rfl (hZ.1 ("RedcrossGantry$Traffic", 58, yX9_placeOf) (by decide +kernel)) (hts _ mw_48) (by decide +kernel) ⟨Nat.le_of_ble_eq_true rfl, Nat.le_of_ble_eq_true rfl⟩, hts _ mw_266, trivial⟩ hK hP hD hS hA hZ rfl hl.1 rfl (Nat.le_of_ble_eq_true rfl) dX8_placeToGoTo_72 ⟨Nat.zero_le _, Nat.zero_le _⟩ (fun H locs hP hD hS => ?_)
              cases h
              exact cc_ret hx hb hr rfl hQ hK hP hD hS rfl dX8_placeToGoTo_75 hlocks
    refine hL24 _ (fun H locs ls h hP hD hS hl => ?_) FU (0 : Int32) _ _ _ h hP hD hS (lv_sub hl [2, 3, 4, 5, 1, 0] rfl)
    refine lv_iconst (v := (-1)) hx hb dX8_placeToGoTo_82 (by decide) ?_
    cases h
    exact cc_ret hx hb hr rfl hQ hK hP hD hS rfl dX8_placeToGoTo_83 hlocks
  · replace h := gx_t c4 h
    refine va_gets hx hb hz_t1 hS hown hf74 (fun _ h9 => h9) dX8_placeToGoTo_10 ?_
    refine lv_goto (tgt := 19) hx hb dX8_placeToGoTo_13 (by decide) ?_
    refine lv_astore (lv' := [(4, .ref t1), (0, .ref (ad 1)), (1, .int p0), (2, .int p1), (3, .ref (ad 20))]) hx hb dX8_placeToGoTo_19 hl (by decide) rfl (fun ls hl => ?_)
    refine lv_iconst (v := 0) hx hb dX8_placeToGoTo_21 (by decide) ?_
    refine lv_istore (lv' := [(5, .int (0 : Int32)), (4, .ref t1), (0, .ref (ad 1)), (1, .int p0), (2, .int p1), (3, .ref (ad 20))]) hx hb dX8_placeToGoTo_22 hl (by decide) rfl (fun ls hl => ?_)
    have hL24 : ∀ (k : Unit → Option (Int32)) (hk : ∀ (H : Heap) (locs : List Loc) (ls : Array Slot), k () = some r → va_P D vwCl (wC cI cZ ad u) H → va_D A (wC cI cZ ad u) → va_S A s.heap H locs → lv_has ls 7 [] → W p l e rX8_placeToGoTo s m ([.ref (ad 1), .int p0, .int p1, .ref (ad 20)] : List Value).toArray below meth c H locs 0 0 Q (F0 m 82 ls [])) (n : Nat) (x5_24 : Int32) (H : Heap) (locs : List Loc) (ls : Array Slot), lp_X8_placeToGoTo_24_v2 u p0 p1 k n x5_24 = some r → va_P D vwCl (wC cI cZ ad u) H → va_D A (wC cI cZ ad u) → va_S A s.heap H locs → lv_has ls 7 [(0, .ref (ad 1)), (1, .int p0), (2, .int p1), (3, .ref (ad 20)), (4, .ref t1), (5, .int x5_24)] → W p l e rX8_placeToGoTo s m ([.ref (ad 1), .int p0, .int p1, .ref (ad 20)] : List Value).toArray below meth c H locs 0 0 Q (F0 m 24 ls []) := by
      intro k hk n
      induction n with
      | zero =>
        intro x5_24 H locs ls h
        rw [lp_X8_placeToGoTo_24_v2] at h
        cases h
      | succ n ih =>
        intro x5_24 H locs ls h hP hD hS hl
        rw [lp_X8_placeToGoTo_24_v2] at h
        refine lv_iload hx hb dX8_placeToGoTo_24 (lv_at hl 5 rfl) ?_
        refine lv_aload hx hb dX8_placeToGoTo_26 (lv_at hl 4 rfl) ?_
        refine va_tlen (v := 3) hx hb ht_t1 hS (by decide) dX8_placeToGoTo_28 ?_
        refine lv_icmp_ge (tgt := 82) hx hb dX8_placeToGoTo_29 (by decide) (fun c20 => ?_) (fun c20 => ?_)
        · replace h := gx_t c20 h
          exact hk _ _ _ h hP hD hS (lv_sub hl [] rfl)
        · replace h := gx_f c20 h
          refine lv_iload_n hx hb dX8_placeToGoTo_32 rfl (lv_at hl 2 rfl) ?_
          refine lv_aload hx hb dX8_placeToGoTo_33 (lv_at hl 4 rfl) ?_
          refine lv_iload hx hb dX8_placeToGoTo_35 (lv_at hl 5 rfl) ?_
          obtain ⟨b21, h⟩ := gx_in h
          refine va_ti hx hb ht_t1 hS b21 rfl dX8_placeToGoTo_37 ?_
          refine lv_iadd hx hb dX8_placeToGoTo_38 ?_
          obtain ⟨v22, ev22, h⟩ := gx_let h
          refine lv_topn ev22 ?_
          refine lv_istore (lv' := [(6, .int v22), (0, .ref (ad 1)), (1, .int p0), (2, .int p1), (3, .ref (ad 20)), (4, .ref t1), (5, .int x5_24)]) hx hb dX8_placeToGoTo_39 hl (by decide) rfl (fun ls hl => ?_)
          refine lv_iload hx hb dX8_placeToGoTo_41 (lv_at hl 0 rfl) ?_
          refine lv_iconst (v := 0) hx hb dX8_placeToGoTo_43 (by decide) ?_
          refine lv_iconst (v := 3) hx hb dX8_placeToGoTo_44 (by decide) ?_
          obtain ⟨y23, hc24, h⟩ := gx_bind h
          refine cc_iSN (As := [.int v22, .int (0 : Int32), .int (3 : Int32)]) (rest := []) ⟨hx, hb, hml, hown, hts⟩ (k_X9_isWithin l D cI cZ ad u v22 (0 : Int32) (3 : Int32) hc24) ⟨va_cnB 3 hts (gwM mw_274) rfl rfl rfl (hZ.1 ("RedcrossGantry$Traffic", 39, yX9_isWithin) (by decide +kernel)) (hts _ mw_48) (by decide +kernel) ⟨Nat.le_of_ble_eq_true rfl, Nat.le_of_ble_eq_true rfl⟩, hts _ mw_273, trivial⟩ hK hP hD hS hA hZ rfl hl.1 rfl (Nat.le_of_ble_eq_true rfl) dX8_placeToGoTo_45 ⟨Nat.zero_le _, Nat.zero_le _⟩ (fun H locs hP hD hS => ?_)
          refine lv_if_eq (tgt := 76) hx hb dX8_placeToGoTo_48 (by decide) (fun c25 => ?_) (fun c25 => ?_)
          · replace h := gx_t c25 h
            obtain ⟨v26, ev26, h⟩ := gx_let h
            refine lv_iinc (v := v26) (lv' := [(5, .int v26), (6, .int v22), (0, .ref (ad 1)), (1, .int p0), (2, .int p1), (3, .ref (ad 20)), (4, .ref t1)]) hx hb dX8_placeToGoTo_76 hl (k := 6) rfl (by rw [← ev26]; rfl) (by decide) rfl (fun ls hl => ?_)
            refine lv_goto (tgt := 24) hx hb dX8_placeToGoTo_79 (by decide) ?_
            exact ih v26 _ _ _ h hP hD hS (lv_sub hl [2, 3, 4, 5, 6, 0] rfl)
          · replace h := gx_f c25 h
            refine lv_aload_n hx hb dX8_placeToGoTo_51 rfl (lv_at hl 1 rfl) ?_
            refine lv_iload_n hx hb dX8_placeToGoTo_52 rfl (lv_at hl 2 rfl) ?_
            refine lv_iconst (v := 1) hx hb dX8_placeToGoTo_53 (by decide) ?_
            refine lv_iadd hx hb dX8_placeToGoTo_54 ?_
            refine lv_iload hx hb dX8_placeToGoTo_55 (lv_at hl 0 rfl) ?_
            obtain ⟨y27, hc28, h⟩ := gx_bind h
            refine cc_iSN (As := [.int (p0 + (1 : Int32)), .int v22]) (rest := [.ref (ad 1)]) ⟨hx, hb, hml, hown, hts⟩ (k_X9_placeOf l D cI cZ ad u (p0 + (1 : Int32)) v22 hc28) ⟨va_cnB 2 hts (gwM mw_267) rfl rfl rfl (hZ.1 ("RedcrossGantry$Traffic", 58, yX9_placeOf) (by decide +kernel)) (hts _ mw_48) (by decide +kernel) ⟨Nat.le_of_ble_eq_true rfl, Nat.le_of_ble_eq_true rfl⟩, hts _ mw_266, trivial⟩ hK hP hD hS hA hZ rfl hl.1 rfl (Nat.le_of_ble_eq_true rfl) dX8_placeToGoTo_57 ⟨Nat.zero_le _, Nat.zero_le _⟩ (fun H locs hP hD hS => ?_)
            refine lv_aload_n hx hb dX8_placeToGoTo_60 rfl (lv_at hl 4 rfl) ?_
            obtain ⟨y29, hc30, h⟩ := gx_bind h
            refine cc_iV (As := [.int y27, .ref (ad 20)]) (rest := []) ⟨hx, hb, hml, hown, hts⟩ (k_X8_letsIn l D cI cZ ad u y27 hc30) (cwV 2 hts (gwV mw_548 mw_550 mw_10 mw_49 mw_551) rfl rfl rfl (by decide +kernel) ⟨Nat.le_of_ble_eq_true rfl, Nat.le_of_ble_eq_true rfl⟩) hK hP hD hS hA hZ (ci := 8) (q0 := 1) rfl rfl rfl hl.1 rfl (Nat.le_of_ble_eq_true rfl) dX8_placeToGoTo_61 ⟨Nat.zero_le _, Nat.zero_le _⟩ (fun H locs hP hD hS => ?_)
            refine lv_if_eq (tgt := 76) hx hb dX8_placeToGoTo_64 (by decide) (fun c31 => ?_) (fun c31 => ?_)
            · replace h := gx_t c31 h
              obtain ⟨v32, ev32, h⟩ := gx_let h
              refine lv_iinc (v := v32) (lv' := [(5, .int v32), (6, .int v22), (0, .ref (ad 1)), (1, .int p0), (2, .int p1), (3, .ref (ad 20)), (4, .ref t1)]) hx hb dX8_placeToGoTo_76 hl (k := 6) rfl (by rw [← ev32]; rfl) (by decide) rfl (fun ls hl => ?_)
              refine lv_goto (tgt := 24) hx hb dX8_placeToGoTo_79 (by decide) ?_
              exact ih v32 _ _ _ h hP hD hS (lv_sub hl [2, 3, 4, 5, 6, 0] rfl)
            · replace h := gx_f c31 h
              refine lv_iload_n hx hb dX8_placeToGoTo_67 rfl (lv_at hl 2 rfl) ?_
              refine lv_iconst (v := 1) hx hb dX8_placeToGoTo_68 (by decide) ?_
              refine lv_iadd hx hb dX8_placeToGoTo_69 ?_
              refine lv_iload hx hb dX8_placeToGoTo_70 (lv_at hl 0 rfl) ?_
              obtain ⟨y33, hc34, h⟩ := gx_bind h
              refine cc_iSN (As := [.int (p0 + (1 : Int32)), .int v22]) (rest := []) ⟨hx, hb, hml, hown, hts⟩ (k_X9_placeOf l D cI cZ ad u (p0 + (1 : Int32)) v22 hc34) ⟨va_cnB 2 hts (gwM mw_267) rfl rfl rfl (hZ.1 ("RedcrossGantry$Traffic", 58, yX9_placeOf) (by decide +kernel)) (hts _ mw_48) (by decide +kernel) ⟨Nat.le_of_ble_eq_true rfl, Nat.le_of_ble_eq_true rfl⟩, hts _ mw_266, trivial⟩ hK hP hD hS hA hZ rfl hl.1 rfl (Nat.le_of_ble_eq_true rfl) dX8_placeToGoTo_72 ⟨Nat.zero_le _, Nat.zero_le _⟩ (fun H locs hP hD hS => ?_)
              cases h
              exact cc_ret hx hb hr rfl hQ hK hP hD hS rfl dX8_placeToGoTo_75 hlocks
    refine hL24 _ (fun H locs ls h hP hD hS hl => ?_) FU (0 : Int32) _ _ _ h hP hD hS (lv_sub hl [2, 3, 4, 5, 1, 0] rfl)
    refine lv_iconst (v := (-1)) hx hb dX8_placeToGoTo_82 (by decide) ?_
    cases h
    exact cc_ret hx hb hr rfl hQ hK hP hD hS rfl dX8_placeToGoTo_83 hlocks

def rX8_goOnFrom : Room := { frames := 3, cells := 0, slots := 0, locals := 70 }
set_option maxHeartbeats 4000000 in
set_option maxRecDepth 100000 in
theorem k_X8_goOnFrom (l : Launch) (D : va_G) (cI cZ : ClassId) (ad : Nat → Nat) (u : GS) (p0 : Int32) (p1 : Int32) {w' : GS} (h : g_X8_goOnFrom u p0 p1 = some w') : MV l yX8_goOnFrom (wm yX8_goOnFrom cX8_goOnFrom 8 none) rX8_goOnFrom D [(cI, .int), (cZ, .boolean)] (wC cI cZ ad u) (wC cI cZ ad w') [.ref (ad 1), .int p0, .int p1, .ref (ad 20)] := by
  intro sz
  refine Met.ofW (cc := cX8_goOnFrom) (maxL := 8) (ret := none) (by decide) rfl ?_
  intro p e s m args below meth c s₁ B hml hv
  obtain ⟨rfl, hsz, hP, hK, hD0, hZ⟩ := hv
  have hx := B.exec
  have hb := B.bytes
  have hr := B.returns
  have hts : ∀ w ∈ Wall, w.before _ s = true := fun w hw => atoms_spec (ws := wm yX8_goOnFrom cX8_goOnFrom 8 none) B.pre w (List.mem_cons_of_mem _ hw)
  have hown : s.vm.findClass RX8 = some m.cls := findClass_of_methodNamed B.named
  have hlocks := B.notSynchronized
  subst hsz
  have hD := hD0.self (sz := s.heap.size)
  generalize hAe : va_A (wC cI cZ ad u) s.heap.size = A at hD hZ ⊢
  have hA : ∀ q : Nat, s.heap.size ≤ q → A q := fun q h => by rw [← hAe]; exact Or.inr h
  have hS : va_S A s.heap s.heap [] := va_S.rf
  have hf9 := hts _ mw_80
  have hf32 := hts _ mw_92
  have hl := lv_entry ([.ref (ad 1), .int p0, .int p1, .ref (ad 20)]) (n := 8) (Nat.le_of_ble_eq_true rfl)
  rw [lg_entry_eq]
  generalize (lg_sl ([.ref (ad 1), .int p0, .int p1, .ref (ad 20)]) ++ List.replicate (8 - (lg_sl ([.ref (ad 1), .int p0, .int p1, .ref (ad 20)])).length) Slot.unset).toArray = ls at hl ⊢
  replace hl : lv_has ls 8 [(0, .ref (ad 1)), (1, .int p0), (2, .int p1), (3, .ref (ad 20))] := hl
  refine w_gen (fun Q hQ => ?_)
  refine lv_iload_n hx hb dX8_goOnFrom_0 rfl (lv_at hl 1 rfl) ?_
  refine lv_iload_n hx hb dX8_goOnFrom_1 rfl (lv_at hl 2 rfl) ?_
  obtain ⟨y1, hc2, h⟩ := gx_bind h
  refine cc_iSN (As := [.int p0, .int p1]) (rest := []) ⟨hx, hb, hml, hown, hts⟩ (k_X9_placeOf l D cI cZ ad u p0 p1 hc2) ⟨va_cnB 2 hts (gwM mw_267) rfl rfl rfl (hZ.1 ("RedcrossGantry$Traffic", 58, yX9_placeOf) (by decide +kernel)) (hts _ mw_48) (by decide +kernel) ⟨Nat.le_of_ble_eq_true rfl, Nat.le_of_ble_eq_true rfl⟩, hts _ mw_266, trivial⟩ hK hP hD hS hA hZ rfl hl.1 rfl (Nat.le_of_ble_eq_true rfl) dX8_goOnFrom_2 ⟨Nat.zero_le _, Nat.zero_le _⟩ (fun H locs hP hD hS => ?_)
  refine lv_istore (lv' := [(4, .int y1), (0, .ref (ad 1)), (1, .int p0), (2, .int p1), (3, .ref (ad 20))]) hx hb dX8_goOnFrom_5 hl (by decide) rfl (fun ls hl => ?_)
  refine lv_aload_n hx hb dX8_goOnFrom_7 rfl (lv_at hl 1 rfl) ?_
  refine lv_iload hx hb dX8_goOnFrom_8 (lv_at hl 0 rfl) ?_
  obtain ⟨y3, hc4, h⟩ := gx_bind h
  refine cc_iV (As := [.int y1]) (rest := []) ⟨hx, hb, hml, hown, hts⟩ (k_X8_heldAt l D cI cZ ad u y1 hc4) (cwV 1 hts (gwV mw_525 mw_527 mw_7 mw_49 mw_528) rfl rfl rfl (by decide +kernel) ⟨Nat.le_of_ble_eq_true rfl, Nat.le_of_ble_eq_true rfl⟩) hK hP hD hS hA hZ (ci := 8) (q0 := 1) rfl rfl rfl hl.1 rfl (Nat.le_of_ble_eq_true rfl) dX8_goOnFrom_10 ⟨Nat.zero_le _, Nat.zero_le _⟩ (fun H locs hP hD hS => ?_)
  refine lv_aload_n hx hb dX8_goOnFrom_13 rfl (lv_at hl 1 rfl) ?_
  refine lv_iload_n hx hb dX8_goOnFrom_14 rfl (lv_at hl 2 rfl) ?_
  refine lv_iload hx hb dX8_goOnFrom_15 (lv_at hl 0 rfl) ?_
  obtain ⟨y5, hc6, h⟩ := gx_bind h
  refine cc_iV (As := [.int p0, .int y1]) (rest := [.int y3]) ⟨hx, hb, hml, hown, hts⟩ (k_X8_mostThatGoOn l D cI cZ ad u p0 y1 hc6) (cwV 2 hts (gwV mw_529 mw_531 mw_8 mw_49 mw_532) rfl rfl rfl (by decide +kernel) ⟨Nat.le_of_ble_eq_true rfl, Nat.le_of_ble_eq_true rfl⟩) hK hP hD hS hA hZ (ci := 8) (q0 := 1) rfl rfl rfl hl.1 rfl (Nat.le_of_ble_eq_true rfl) dX8_goOnFrom_17 ⟨Nat.zero_le _, Nat.zero_le _⟩ (fun H locs hP hD hS => ?_)
  refine va_mmin hx hb (hml.trans hl.1.symm) hown (hts _ mw_537) (hts _ mw_538) (hts _ mw_58) (hts _ mw_539) (Nat.le_of_ble_eq_true rfl) (Nat.le_of_ble_eq_true rfl) (Nat.zero_le _) (Nat.zero_le _) dX8_goOnFrom_20 ?_
  obtain ⟨v7, ev7, h⟩ := gx_let h
  refine lv_topn ev7 ?_
  refine lv_istore (lv' := [(5, .int v7), (4, .int y1), (0, .ref (ad 1)), (1, .int p0), (2, .int p1), (3, .ref (ad 20))]) hx hb dX8_goOnFrom_23 hl (by decide) rfl (fun ls hl => ?_)
  refine lv_iconst (v := 0) hx hb dX8_goOnFrom_25 (by decide) ?_
  refine lv_istore (lv' := [(6, .int (0 : Int32)), (5, .int v7), (4, .int y1), (0, .ref (ad 1)), (1, .int p0), (2, .int p1), (3, .ref (ad 20))]) hx hb dX8_goOnFrom_26 hl (by decide) rfl (fun ls hl => ?_)
  have hL28 : ∀ (k : GS → Option (GS)) (hk : ∀ (w28 : GS) (H : Heap) (locs : List Loc) (ls : Array Slot), k w28 = some w' → va_P D vwCl (wC cI cZ ad w28) H → va_D A (wC cI cZ ad w28) → va_S A s.heap H locs → lv_has ls 8 [] → W p l e rX8_goOnFrom s m ([.ref (ad 1), .int p0, .int p1, .ref (ad 20)] : List Value).toArray below meth c H locs 0 0 Q (F0 m 98 ls [])) (n : Nat) (x6_28 : Int32) (w28 : GS) (H : Heap) (locs : List Loc) (ls : Array Slot), lp_X8_goOnFrom_28 p0 p1 y1 v7 k n x6_28 w28 = some w' → va_P D vwCl (wC cI cZ ad w28) H → va_D A (wC cI cZ ad w28) → va_S A s.heap H locs → lv_has ls 8 [(0, .ref (ad 1)), (1, .int p0), (2, .int p1), (3, .ref (ad 20)), (4, .int y1), (5, .int v7), (6, .int x6_28)] → W p l e rX8_goOnFrom s m ([.ref (ad 1), .int p0, .int p1, .ref (ad 20)] : List Value).toArray below meth c H locs 0 0 Q (F0 m 28 ls []) := by
    intro k hk n
    induction n with
    | zero =>
      intro x6_28 w28 H locs ls h
      rw [lp_X8_goOnFrom_28] at h
      cases h
    | succ n ih =>
      intro x6_28 w28 H locs ls h hP hD hS hl
      rw [lp_X8_goOnFrom_28] at h
      refine lv_iload hx hb dX8_goOnFrom_28 (lv_at hl 6 rfl) ?_
      refine lv_iload hx hb dX8_goOnFrom_30 (lv_at hl 5 rfl) ?_
      refine lv_icmp_ge (tgt := 98) hx hb dX8_goOnFrom_32 (by decide) (fun c8 => ?_) (fun c8 => ?_)
      · replace h := gx_t c8 h
        exact hk w28 _ _ _ h hP hD hS (lv_sub hl [] rfl)
      · replace h := gx_f c8 h
        refine lv_iload_n hx hb dX8_goOnFrom_35 rfl (lv_at hl 1 rfl) ?_
        refine lv_bipush (v := 11) hx hb dX8_goOnFrom_36 (by decide) ?_
        obtain ⟨j81_9, ej81_9, h⟩ := gx_let h
        have hj81_9 : ∀ (w81 : GS) (H : Heap) (locs : List Loc) (ls : Array Slot), j81_9 w81 = some w' → va_P D vwCl (wC cI cZ ad w81) H → va_D A (wC cI cZ ad w81) → va_S A s.heap H locs → lv_has ls 8 [(0, .ref (ad 1)), (1, .int p0), (2, .int p1), (3, .ref (ad 20)), (4, .int y1), (5, .int v7), (6, .int x6_28)] → W p l e rX8_goOnFrom s m ([.ref (ad 1), .int p0, .int p1, .ref (ad 20)] : List Value).toArray below meth c H locs 0 0 Q (F0 m 81 ls []) := by
          intro w81 H locs ls h hP hD hS hl
          subst ej81_9
          refine lv_aload_n hx hb dX8_goOnFrom_81 rfl (lv_at hl 0 rfl) ?_
          refine va_get (D := D) (ci := 8) (v := .ref (ad 10)) (C := RX8) (T := TX8) (N := 7) hx hb hts iX8 hown hK hP 1 rfl rfl 0 (by decide) hf9 (fun _ h9 => h9) rfl dX8_goOnFrom_82 ?_
          refine lv_iload hx hb dX8_goOnFrom_85 (lv_at hl 4 rfl) ?_
          refine lv_dup2_11 hx hb dX8_goOnFrom_87 rfl rfl ?_
          obtain ⟨b10, h⟩ := gx_in h
          refine va_iald (D := D) hx hb hK hP 10 0 rfl rfl b10 dX8_goOnFrom_88 ?_
          refine lv_iconst (v := 1) hx hb dX8_goOnFrom_89 (by decide) ?_
          refine lv_isub hx hb dX8_goOnFrom_90 ?_
          obtain ⟨b11, h⟩ := gx_in h
          refine va_iast (D := D) hx hb hK hP hD hS 10 0 rfl rfl b11 dX8_goOnFrom_91 (fun H locs hP hD hS => ?_)
          obtain ⟨u12, eu12, h⟩ := gx_let h
          replace hP : va_P D vwCl (wC cI cZ ad u12) H := by rw [← eu12]; exact hP
          replace hD : va_D A (wC cI cZ ad u12) := by rw [← eu12]; exact hD
          obtain ⟨v13, ev13, h⟩ := gx_let h
          refine lv_iinc (v := v13) (lv' := [(6, .int v13), (0, .ref (ad 1)), (1, .int p0), (2, .int p1), (3, .ref (ad 20)), (4, .int y1), (5, .int v7)]) hx hb dX8_goOnFrom_92 hl (k := 6) rfl (by rw [← ev13]; rfl) (by decide) rfl (fun ls hl => ?_)
          refine lv_goto (tgt := 28) hx hb dX8_goOnFrom_95 (by decide) ?_
          exact ih v13 u12 _ _ _ h hP hD hS (lv_sub hl [1, 2, 3, 4, 5, 6, 0] rfl)
        refine lv_icmp_ne (tgt := 54) hx hb dX8_goOnFrom_38 (by decide) (fun c14 => ?_) (fun c14 => ?_)
        · replace h := gx_f c14 h
          refine lv_aload_n hx hb dX8_goOnFrom_54 rfl (lv_at hl 0 rfl) ?_
          refine lv_iload_n hx hb dX8_goOnFrom_55 rfl (lv_at hl 1 rfl) ?_
          refine lv_iload_n hx hb dX8_goOnFrom_56 rfl (lv_at hl 2 rfl) ?_
          refine lv_aload_n hx hb dX8_goOnFrom_57 rfl (lv_at hl 3 rfl) ?_
          obtain ⟨y15, hc16, h⟩ := gx_bind h
          refine cc_iV (As := [.int p0, .int p1, .ref (ad 20)]) (rest := []) ⟨hx, hb, hml, hown, hts⟩ (k_X8_placeToGoTo l D cI cZ ad w28 p0 p1 hc16) (cwV 3 hts (gwV mw_540 mw_542 mw_9 mw_49 mw_543) rfl rfl rfl (by decide +kernel) ⟨Nat.le_of_ble_eq_true rfl, Nat.le_of_ble_eq_true rfl⟩) hK hP hD hS hA hZ (ci := 8) (q0 := 1) rfl rfl rfl hl.1 rfl (Nat.le_of_ble_eq_true rfl) dX8_goOnFrom_58 ⟨Nat.zero_le _, Nat.zero_le _⟩ (fun H locs hP hD hS => ?_)
          refine lv_istore (lv' := [(7, .int y15), (0, .ref (ad 1)), (1, .int p0), (2, .int p1), (3, .ref (ad 20)), (4, .int y1), (5, .int v7), (6, .int x6_28)]) hx hb dX8_goOnFrom_61 hl (by decide) rfl (fun ls hl => ?_)
          refine lv_iload hx hb dX8_goOnFrom_63 (lv_at hl 0 rfl) ?_
          refine lv_iconst (v := (-1)) hx hb dX8_goOnFrom_65 (by decide) ?_
          refine lv_icmp_ne (tgt := 70) hx hb dX8_goOnFrom_66 (by decide) (fun c17 => ?_) (fun c17 => ?_)
          · replace h := gx_f c17 h
            refine lv_aload_n hx hb dX8_goOnFrom_70 rfl (lv_at hl 1 rfl) ?_
            refine va_get (D := D) (ci := 8) (v := .ref (ad 10)) (C := RX8) (T := TX8) (N := 7) hx hb hts iX8 hown hK hP 1 rfl rfl 0 (by decide) hf9 (fun _ h9 => h9) rfl dX8_goOnFrom_71 ?_
            refine lv_iload hx hb dX8_goOnFrom_74 (lv_at hl 0 rfl) ?_
            refine lv_dup2_11 hx hb dX8_goOnFrom_76 rfl rfl ?_
            obtain ⟨b18, h⟩ := gx_in h
            refine va_iald (D := D) hx hb hK hP 10 0 rfl rfl b18 dX8_goOnFrom_77 ?_
            refine lv_iconst (v := 1) hx hb dX8_goOnFrom_78 (by decide) ?_
            refine lv_iadd hx hb dX8_goOnFrom_79 ?_
            obtain ⟨b19, h⟩ := gx_in h
            refine va_iast (D := D) hx hb hK hP hD hS 10 0 rfl rfl b19 dX8_goOnFrom_80 (fun H locs hP hD hS => ?_)
            obtain ⟨u20, eu20, h⟩ := gx_let h
            replace hP : va_P D vwCl (wC cI cZ ad u20) H := by rw [← eu20]; exact hP
            replace hD : va_D A (wC cI cZ ad u20) := by rw [← eu20]; exact hD
            exact hj81_9 u20 _ _ _ h hP hD hS (lv_sub hl [1, 2, 3, 4, 5, 6, 7] rfl)
          · replace h := gx_t c17 h
            cases h
            exact cc_vret hx hb hr hQ hK hP hD hS dX8_goOnFrom_69 hlocks
        · replace h := gx_t c14 h
          refine lv_aload_n hx hb dX8_goOnFrom_41 rfl (lv_at hl 0 rfl) ?_
          refine lv_dup hx hb dX8_goOnFrom_42 rfl ?_
          refine va_get (D := D) (ci := 8) (v := .int (cT_gone w28)) (C := RX8) (T := TX8) (N := 7) hx hb hts iX8 hown hK hP 1 rfl rfl 6 (by decide) hf32 (fun _ h9 => h9) rfl dX8_goOnFrom_43 ?_
          refine lv_iconst (v := 1) hx hb dX8_goOnFrom_46 (by decide) ?_
          refine lv_iadd hx hb dX8_goOnFrom_47 ?_
          refine va_put (D := D) (ci := 8) (v := .int ((cT_gone w28) + (1 : Int32))) (ty := .int) (C := RX8) (T := TX8) (N := 7) hx hb hts iX8 tyX8 tyX8_ok nmX8 hown hK hP hD hS 1 rfl rfl 6 (by decide) hf32 (fun _ h9 => h9) rfl (by decide +kernel) rfl rfl (Nat.le_of_ble_eq_true rfl) dX8_goOnFrom_48 (fun H locs hP hD hS => ?_)
          obtain ⟨u21, eu21, h⟩ := gx_let h
          replace hP : va_P D vwCl (wC cI cZ ad u21) H := by rw [← eu21]; exact hP
          replace hD : va_D A (wC cI cZ ad u21) := by rw [← eu21]; exact hD
          refine lv_goto (tgt := 81) hx hb dX8_goOnFrom_51 (by decide) ?_
          exact hj81_9 u21 _ _ _ h hP hD hS (lv_sub hl [0, 1, 2, 3, 4, 5, 6] rfl)
  refine hL28 _ (fun w28 H locs ls h hP hD hS hl => ?_) FU (0 : Int32) u _ _ _ h hP hD hS (lv_sub hl [3, 4, 5, 6, 2, 1, 0] rfl)
  cases h
  exact cc_vret hx hb hr hQ hK hP hD hS dX8_goOnFrom_98 hlocks

def rX8_goOn : Room := { frames := 4, cells := 0, slots := 0, locals := 97 }
set_option maxHeartbeats 4000000 in
set_option maxRecDepth 100000 in
theorem k_X8_goOn (l : Launch) (D : va_G) (cI cZ : ClassId) (ad : Nat → Nat) (u : GS) {w' : GS} (h : g_X8_goOn u = some w') : MV l yX8_goOn (wm yX8_goOn cX8_goOn 4 none) rX8_goOn D [(cI, .int), (cZ, .boolean)] (wC cI cZ ad u) (wC cI cZ ad w') [.ref (ad 1), .ref (ad 20)] := by
  intro sz
  refine Met.ofW (cc := cX8_goOn) (maxL := 4) (ret := none) (by decide) rfl ?_
  intro p e s m args below meth c s₁ B hml hv
  obtain ⟨rfl, hsz, hP, hK, hD0, hZ⟩ := hv
  have hx := B.exec
  have hb := B.bytes
  have hr := B.returns
  have hts : ∀ w ∈ Wall, w.before _ s = true := fun w hw => atoms_spec (ws := wm yX8_goOn cX8_goOn 4 none) B.pre w (List.mem_cons_of_mem _ hw)
  have hown : s.vm.findClass RX8 = some m.cls := findClass_of_methodNamed B.named
  have hlocks := B.notSynchronized
  subst hsz
  have hD := hD0.self (sz := s.heap.size)
  generalize hAe : va_A (wC cI cZ ad u) s.heap.size = A at hD hZ ⊢
  have hA : ∀ q : Nat, s.heap.size ≤ q → A q := fun q h => by rw [← hAe]; exact Or.inr h
  have hS : va_S A s.heap s.heap [] := va_S.rf
  have hl := lv_entry ([.ref (ad 1), .ref (ad 20)]) (n := 4) (Nat.le_of_ble_eq_true rfl)
  rw [lg_entry_eq]
  generalize (lg_sl ([.ref (ad 1), .ref (ad 20)]) ++ List.replicate (4 - (lg_sl ([.ref (ad 1), .ref (ad 20)])).length) Slot.unset).toArray = ls at hl ⊢
  replace hl : lv_has ls 4 [(0, .ref (ad 1)), (1, .ref (ad 20))] := hl
  refine w_gen (fun Q hQ => ?_)
  refine lv_bipush (v := 11) hx hb dX8_goOn_0 (by decide) ?_
  refine lv_istore_n (lv' := [(2, .int (11 : Int32)), (0, .ref (ad 1)), (1, .ref (ad 20))]) hx hb dX8_goOn_2 rfl hl (by decide) rfl (fun ls hl => ?_)
  have hL3 : ∀ (k : GS → Option (GS)) (hk : ∀ (w3 : GS) (H : Heap) (locs : List Loc) (ls : Array Slot), k w3 = some w' → va_P D vwCl (wC cI cZ ad w3) H → va_D A (wC cI cZ ad w3) → va_S A s.heap H locs → lv_has ls 4 [] → W p l e rX8_goOn s m ([.ref (ad 1), .ref (ad 20)] : List Value).toArray below meth c H locs 0 0 Q (F0 m 33 ls [])) (n : Nat) (x2_3 : Int32) (w3 : GS) (H : Heap) (locs : List Loc) (ls : Array Slot), lp_X8_goOn_3 k n x2_3 w3 = some w' → va_P D vwCl (wC cI cZ ad w3) H → va_D A (wC cI cZ ad w3) → va_S A s.heap H locs → lv_has ls 4 [(0, .ref (ad 1)), (1, .ref (ad 20)), (2, .int x2_3)] → W p l e rX8_goOn s m ([.ref (ad 1), .ref (ad 20)] : List Value).toArray below meth c H locs 0 0 Q (F0 m 3 ls []) := by
    intro k hk n
    induction n with
    | zero =>
      intro x2_3 w3 H locs ls h
      rw [lp_X8_goOn_3] at h
      cases h
    | succ n ih =>
      intro x2_3 w3 H locs ls h hP hD hS hl
      rw [lp_X8_goOn_3] at h
      refine lv_iload_n hx hb dX8_goOn_3 rfl (lv_at hl 2 rfl) ?_
      refine lv_if_lt (tgt := 33) hx hb dX8_goOn_4 (by decide) (fun c1 => ?_) (fun c1 => ?_)
      · replace h := gx_t c1 h
        exact hk w3 _ _ _ h hP hD hS (lv_sub hl [] rfl)
      · replace h := gx_f c1 h
        refine lv_iconst (v := 0) hx hb dX8_goOn_7 (by decide) ?_
        refine lv_istore_n (lv' := [(3, .int (0 : Int32)), (0, .ref (ad 1)), (1, .ref (ad 20)), (2, .int x2_3)]) hx hb dX8_goOn_8 rfl hl (by decide) rfl (fun ls hl => ?_)
        have hL9 : ∀ (k : GS → Option (GS)) (hk : ∀ (w9 : GS) (H : Heap) (locs : List Loc) (ls : Array Slot), k w9 = some w' → va_P D vwCl (wC cI cZ ad w9) H → va_D A (wC cI cZ ad w9) → va_S A s.heap H locs → lv_has ls 4 [(0, .ref (ad 1)), (1, .ref (ad 20)), (2, .int x2_3)] → W p l e rX8_goOn s m ([.ref (ad 1), .ref (ad 20)] : List Value).toArray below meth c H locs 0 0 Q (F0 m 27 ls [])) (n : Nat) (x3_9 : Int32) (w9 : GS) (H : Heap) (locs : List Loc) (ls : Array Slot), lp_X8_goOn_9 x2_3 k n x3_9 w9 = some w' → va_P D vwCl (wC cI cZ ad w9) H → va_D A (wC cI cZ ad w9) → va_S A s.heap H locs → lv_has ls 4 [(0, .ref (ad 1)), (1, .ref (ad 20)), (2, .int x2_3), (3, .int x3_9)] → W p l e rX8_goOn s m ([.ref (ad 1), .ref (ad 20)] : List Value).toArray below meth c H locs 0 0 Q (F0 m 9 ls []) := by
          intro k hk n
          induction n with
          | zero =>
            intro x3_9 w9 H locs ls h
            rw [lp_X8_goOn_9] at h
            cases h
          | succ n ih =>
            intro x3_9 w9 H locs ls h hP hD hS hl
            rw [lp_X8_goOn_9] at h
            refine lv_iload_n hx hb dX8_goOn_9 rfl (lv_at hl 3 rfl) ?_
            refine lv_iconst (v := 4) hx hb dX8_goOn_10 (by decide) ?_
            refine lv_icmp_ge (tgt := 27) hx hb dX8_goOn_11 (by decide) (fun c2 => ?_) (fun c2 => ?_)
            · replace h := gx_t c2 h
              exact hk w9 _ _ _ h hP hD hS (lv_sub hl [0, 1, 2] rfl)
            · replace h := gx_f c2 h
              refine lv_aload_n hx hb dX8_goOn_14 rfl (lv_at hl 0 rfl) ?_
              refine lv_iload_n hx hb dX8_goOn_15 rfl (lv_at hl 2 rfl) ?_
              refine lv_iload_n hx hb dX8_goOn_16 rfl (lv_at hl 3 rfl) ?_
              refine lv_aload_n hx hb dX8_goOn_17 rfl (lv_at hl 1 rfl) ?_
              obtain ⟨y3, hc4, h⟩ := gx_bind h
              refine cc_vV (As := [.int x2_3, .int x3_9, .ref (ad 20)]) (rest := []) ⟨hx, hb, hml, hown, hts⟩ (k_X8_goOnFrom l D cI cZ ad w9 x2_3 x3_9 hc4) (cwV 3 hts (gwV mw_520 mw_522 mw_6 mw_49 mw_523) rfl rfl rfl (by decide +kernel) ⟨Nat.le_of_ble_eq_true rfl, Nat.le_of_ble_eq_true rfl⟩) hK hP hD hS hA hZ (ci := 8) (q0 := 1) rfl rfl rfl hl.1 rfl (Nat.le_of_ble_eq_true rfl) dX8_goOn_18 ⟨Nat.zero_le _, Nat.zero_le _⟩ (fun H locs hP hD hS => ?_)
              obtain ⟨v5, ev5, h⟩ := gx_let h
              refine lv_iinc (v := v5) (lv' := [(3, .int v5), (0, .ref (ad 1)), (1, .ref (ad 20)), (2, .int x2_3)]) hx hb dX8_goOn_21 hl (k := 3) rfl (by rw [← ev5]; rfl) (by decide) rfl (fun ls hl => ?_)
              refine lv_goto (tgt := 9) hx hb dX8_goOn_24 (by decide) ?_
              exact ih v5 y3 _ _ _ h hP hD hS (lv_sub hl [1, 2, 3, 0] rfl)
        refine hL9 _ (fun w9 H locs ls h hP hD hS hl => ?_) FU (0 : Int32) w3 _ _ _ h hP hD hS (lv_sub hl [1, 2, 3, 0] rfl)
        obtain ⟨v6, ev6, h⟩ := gx_let h
        refine lv_iinc (v := v6) (lv' := [(2, .int v6), (0, .ref (ad 1)), (1, .ref (ad 20))]) hx hb dX8_goOn_27 hl (k := 2) rfl (by rw [← ev6]; rfl) (by decide) rfl (fun ls hl => ?_)
        refine lv_goto (tgt := 3) hx hb dX8_goOn_30 (by decide) ?_
        exact ih v6 w9 _ _ _ h hP hD hS (lv_sub hl [1, 2, 0] rfl)
  refine hL3 _ (fun w3 H locs ls h hP hD hS hl => ?_) FU (11 : Int32) u _ _ _ h hP hD hS (lv_sub hl [1, 2, 0] rfl)
  cases h
  exact cc_vret hx hb hr hQ hK hP hD hS dX8_goOn_33 hlocks

def rX8_laneToEnter : Room := { frames := 2, cells := 0, slots := 0, locals := 44 }
set_option maxHeartbeats 4000000 in
set_option maxRecDepth 100000 in
theorem k_X8_laneToEnter (l : Launch) (D : va_G) (cI cZ : ClassId) (ad : Nat → Nat) (u : GS) {r : Int32} (h : g_X8_laneToEnter u = some r) : MI l yX8_laneToEnter (wm yX8_laneToEnter cX8_laneToEnter 4 (some .int)) rX8_laneToEnter D [(cI, .int), (cZ, .boolean)] (wC cI cZ ad u) (wC cI cZ ad u) [.ref (ad 1), .ref (ad 20)] r := by
  intro sz
  refine Met.ofW (cc := cX8_laneToEnter) (maxL := 4) (ret := (some .int)) (by decide) rfl ?_
  intro p e s m args below meth c s₁ B hml hv
  obtain ⟨rfl, hsz, hP, hK, hD0, hZ⟩ := hv
  have hx := B.exec
  have hb := B.bytes
  have hr := B.returns
  have hts : ∀ w ∈ Wall, w.before _ s = true := fun w hw => atoms_spec (ws := wm yX8_laneToEnter cX8_laneToEnter 4 (some .int)) B.pre w (List.mem_cons_of_mem _ hw)
  have hown : s.vm.findClass RX8 = some m.cls := findClass_of_methodNamed B.named
  have hlocks := B.notSynchronized
  subst hsz
  have hD := hD0.self (sz := s.heap.size)
  generalize hAe : va_A (wC cI cZ ad u) s.heap.size = A at hD hZ ⊢
  have hA : ∀ q : Nat, s.heap.size ≤ q → A q := fun q h => by rw [← hAe]; exact Or.inr h
  have hS : va_S A s.heap s.heap [] := va_S.rf
  have hf9 := hts _ mw_80
  have hl := lv_entry ([.ref (ad 1), .ref (ad 20)]) (n := 4) (Nat.le_of_ble_eq_true rfl)
  rw [lg_entry_eq]
  generalize (lg_sl ([.ref (ad 1), .ref (ad 20)]) ++ List.replicate (4 - (lg_sl ([.ref (ad 1), .ref (ad 20)])).length) Slot.unset).toArray = ls at hl ⊢
  replace hl : lv_has ls 4 [(0, .ref (ad 1)), (1, .ref (ad 20))] := hl
  refine w_gen (fun Q hQ => ?_)
  refine lv_iconst (v := (-1)) hx hb dX8_laneToEnter_0 (by decide) ?_
  refine lv_istore_n (lv' := [(2, .int (-1 : Int32)), (0, .ref (ad 1)), (1, .ref (ad 20))]) hx hb dX8_laneToEnter_1 rfl hl (by decide) rfl (fun ls hl => ?_)
  refine lv_iconst (v := 0) hx hb dX8_laneToEnter_2 (by decide) ?_
  refine lv_istore_n (lv' := [(3, .int (0 : Int32)), (2, .int (-1 : Int32)), (0, .ref (ad 1)), (1, .ref (ad 20))]) hx hb dX8_laneToEnter_3 rfl hl (by decide) rfl (fun ls hl => ?_)
  have hL4 : ∀ (k : Int32 → Option (Int32)) (hk : ∀ (x2_4 : Int32) (H : Heap) (locs : List Loc) (ls : Array Slot), k x2_4 = some r → va_P D vwCl (wC cI cZ ad u) H → va_D A (wC cI cZ ad u) → va_S A s.heap H locs → lv_has ls 4 [(2, .int x2_4)] → W p l e rX8_laneToEnter s m ([.ref (ad 1), .ref (ad 20)] : List Value).toArray below meth c H locs 0 0 Q (F0 m 46 ls [])) (n : Nat) (x2_4 : Int32) (x3_4 : Int32) (H : Heap) (locs : List Loc) (ls : Array Slot), lp_X8_laneToEnter_4 u k n x2_4 x3_4 = some r → va_P D vwCl (wC cI cZ ad u) H → va_D A (wC cI cZ ad u) → va_S A s.heap H locs → lv_has ls 4 [(0, .ref (ad 1)), (1, .ref (ad 20)), (2, .int x2_4), (3, .int x3_4)] → W p l e rX8_laneToEnter s m ([.ref (ad 1), .ref (ad 20)] : List Value).toArray below meth c H locs 0 0 Q (F0 m 4 ls []) := by
    intro k hk n
    induction n with
    | zero =>
      intro x2_4 x3_4 H locs ls h
      rw [lp_X8_laneToEnter_4] at h
      cases h
    | succ n ih =>
      intro x2_4 x3_4 H locs ls h hP hD hS hl
      rw [lp_X8_laneToEnter_4] at h
      refine lv_iload_n hx hb dX8_laneToEnter_4 rfl (lv_at hl 3 rfl) ?_
      refine lv_iconst (v := 4) hx hb dX8_laneToEnter_5 (by decide) ?_
      refine lv_icmp_ge (tgt := 46) hx hb dX8_laneToEnter_6 (by decide) (fun c1 => ?_) (fun c1 => ?_)
      · replace h := gx_t c1 h
        exact hk x2_4 _ _ _ h hP hD hS (lv_sub hl [2] rfl)
      · replace h := gx_f c1 h
        refine lv_aload_n hx hb dX8_laneToEnter_9 rfl (lv_at hl 0 rfl) ?_
        refine lv_iload_n hx hb dX8_laneToEnter_10 rfl (lv_at hl 3 rfl) ?_
        refine lv_aload_n hx hb dX8_laneToEnter_11 rfl (lv_at hl 1 rfl) ?_
        obtain ⟨y2, hc3, h⟩ := gx_bind h
        refine cc_iV (As := [.int x3_4, .ref (ad 20)]) (rest := []) ⟨hx, hb, hml, hown, hts⟩ (k_X8_letsIn l D cI cZ ad u x3_4 hc3) (cwV 2 hts (gwV mw_548 mw_550 mw_10 mw_49 mw_551) rfl rfl rfl (by decide +kernel) ⟨Nat.le_of_ble_eq_true rfl, Nat.le_of_ble_eq_true rfl⟩) hK hP hD hS hA hZ (ci := 8) (q0 := 1) rfl rfl rfl hl.1 rfl (Nat.le_of_ble_eq_true rfl) dX8_laneToEnter_12 ⟨Nat.zero_le _, Nat.zero_le _⟩ (fun H locs hP hD hS => ?_)
        obtain ⟨j40_4, ej40_4, h⟩ := gx_let h
        have hj40_4 : ∀ (x2_40 : Int32) (H : Heap) (locs : List Loc) (ls : Array Slot), j40_4 x2_40 = some r → va_P D vwCl (wC cI cZ ad u) H → va_D A (wC cI cZ ad u) → va_S A s.heap H locs → lv_has ls 4 [(0, .ref (ad 1)), (1, .ref (ad 20)), (2, .int x2_40), (3, .int x3_4)] → W p l e rX8_laneToEnter s m ([.ref (ad 1), .ref (ad 20)] : List Value).toArray below meth c H locs 0 0 Q (F0 m 40 ls []) := by
          intro x2_40 H locs ls h hP hD hS hl
          subst ej40_4
          obtain ⟨v5, ev5, h⟩ := gx_let h
          refine lv_iinc (v := v5) (lv' := [(3, .int v5), (0, .ref (ad 1)), (1, .ref (ad 20)), (2, .int x2_40)]) hx hb dX8_laneToEnter_40 hl (k := 3) rfl (by rw [← ev5]; rfl) (by decide) rfl (fun ls hl => ?_)
          refine lv_goto (tgt := 4) hx hb dX8_laneToEnter_43 (by decide) ?_
          exact ih x2_40 v5 _ _ _ h hP hD hS (lv_sub hl [1, 2, 3, 0] rfl)
        refine lv_if_eq (tgt := 40) hx hb dX8_laneToEnter_15 (by decide) (fun c6 => ?_) (fun c6 => ?_)
        · replace h := gx_t c6 h
          exact hj40_4 x2_4 _ _ _ h hP hD hS (lv_sub hl [0, 1, 2, 3] rfl)
        · replace h := gx_f c6 h
          refine lv_iload_n hx hb dX8_laneToEnter_18 rfl (lv_at hl 2 rfl) ?_
          refine lv_iconst (v := (-1)) hx hb dX8_laneToEnter_19 (by decide) ?_
          obtain ⟨j38_7, ej38_7, h⟩ := gx_let h
          have hj38_7 : ∀ (H : Heap) (locs : List Loc) (ls : Array Slot), j38_7 () = some r → va_P D vwCl (wC cI cZ ad u) H → va_D A (wC cI cZ ad u) → va_S A s.heap H locs → lv_has ls 4 [(0, .ref (ad 1)), (1, .ref (ad 20)), (3, .int x3_4)] → W p l e rX8_laneToEnter s m ([.ref (ad 1), .ref (ad 20)] : List Value).toArray below meth c H locs 0 0 Q (F0 m 38 ls []) := by
            intro  H locs ls h hP hD hS hl
            subst ej38_7
            refine lv_iload_n hx hb dX8_laneToEnter_38 rfl (lv_at hl 2 rfl) ?_
            refine lv_istore_n (lv' := [(2, .int x3_4), (0, .ref (ad 1)), (1, .ref (ad 20)), (3, .int x3_4)]) hx hb dX8_laneToEnter_39 rfl hl (by decide) rfl (fun ls hl => ?_)
            exact hj40_4 x3_4 _ _ _ h hP hD hS (lv_sub hl [1, 2, 0, 3] rfl)
          refine lv_icmp_eq (tgt := 38) hx hb dX8_laneToEnter_20 (by decide) (fun c8 => ?_) (fun c8 => ?_)
          · replace h := gx_t c8 h
            exact hj38_7 _ _ _ h hP hD hS (lv_sub hl [0, 1, 3] rfl)
          · replace h := gx_f c8 h
            refine lv_aload_n hx hb dX8_laneToEnter_23 rfl (lv_at hl 0 rfl) ?_
            refine va_get (D := D) (ci := 8) (v := .ref (ad 10)) (C := RX8) (T := TX8) (N := 7) hx hb hts iX8 hown hK hP 1 rfl rfl 0 (by decide) hf9 (fun _ h9 => h9) rfl dX8_laneToEnter_24 ?_
            refine lv_iload_n hx hb dX8_laneToEnter_27 rfl (lv_at hl 3 rfl) ?_
            obtain ⟨b9, h⟩ := gx_in h
            refine va_iald (D := D) hx hb hK hP 10 0 rfl rfl b9 dX8_laneToEnter_28 ?_
            refine lv_aload_n hx hb dX8_laneToEnter_29 rfl (lv_at hl 0 rfl) ?_
            refine va_get (D := D) (ci := 8) (v := .ref (ad 10)) (C := RX8) (T := TX8) (N := 7) hx hb hts iX8 hown hK hP 1 rfl rfl 0 (by decide) hf9 (fun _ h9 => h9) rfl dX8_laneToEnter_30 ?_
            refine lv_iload_n hx hb dX8_laneToEnter_33 rfl (lv_at hl 2 rfl) ?_
            obtain ⟨b10, h⟩ := gx_in h
            refine va_iald (D := D) hx hb hK hP 10 0 rfl rfl b10 dX8_laneToEnter_34 ?_
            refine lv_icmp_ge (tgt := 40) hx hb dX8_laneToEnter_35 (by decide) (fun c11 => ?_) (fun c11 => ?_)
            · replace h := gx_t c11 h
              exact hj40_4 x2_4 _ _ _ h hP hD hS (lv_sub hl [0, 1, 2, 3] rfl)
            · replace h := gx_f c11 h
              exact hj38_7 _ _ _ h hP hD hS (lv_sub hl [0, 1, 3] rfl)
  refine hL4 _ (fun x2_4 H locs ls h hP hD hS hl => ?_) FU (-1 : Int32) (0 : Int32) _ _ _ h hP hD hS (lv_sub hl [2, 3, 1, 0] rfl)
  refine lv_iload_n hx hb dX8_laneToEnter_46 rfl (lv_at hl 0 rfl) ?_
  cases h
  exact cc_ret hx hb hr rfl hQ hK hP hD hS rfl dX8_laneToEnter_47 hlocks

def rX8_arrive : Room := { frames := 3, cells := 0, slots := 0, locals := 67 }
set_option maxHeartbeats 4000000 in
set_option maxRecDepth 100000 in
theorem k_X8_arrive (l : Launch) (D : va_G) (cI cZ : ClassId) (ad : Nat → Nat) (u : GS) {w' : GS} (h : g_X8_arrive u = some w') : MV l yX8_arrive (wm yX8_arrive cX8_arrive 4 none) rX8_arrive D [(cI, .int), (cZ, .boolean)] (wC cI cZ ad u) (wC cI cZ ad w') [.ref (ad 1), .ref (ad 20)] := by
  intro sz
  refine Met.ofW (cc := cX8_arrive) (maxL := 4) (ret := none) (by decide) rfl ?_
  intro p e s m args below meth c s₁ B hml hv
  obtain ⟨rfl, hsz, hP, hK, hD0, hZ⟩ := hv
  have hx := B.exec
  have hb := B.bytes
  have hr := B.returns
  have hts : ∀ w ∈ Wall, w.before _ s = true := fun w hw => atoms_spec (ws := wm yX8_arrive cX8_arrive 4 none) B.pre w (List.mem_cons_of_mem _ hw)
  have hown : s.vm.findClass RX8 = some m.cls := findClass_of_methodNamed B.named
  have hlocks := B.notSynchronized
  subst hsz
  have hD := hD0.self (sz := s.heap.size)
  generalize hAe : va_A (wC cI cZ ad u) s.heap.size = A at hD hZ ⊢
  have hA : ∀ q : Nat, s.heap.size ≤ q → A q := fun q h => by rw [← hAe]; exact Or.inr h
  have hS : va_S A s.heap s.heap [] := va_S.rf
  have hf26 := hts _ mw_88
  have hf22 := hts _ mw_86
  have hf29 := hts _ mw_90
  have hf9 := hts _ mw_80
  have hl := lv_entry ([.ref (ad 1), .ref (ad 20)]) (n := 4) (Nat.le_of_ble_eq_true rfl)
  rw [lg_entry_eq]
  generalize (lg_sl ([.ref (ad 1), .ref (ad 20)]) ++ List.replicate (4 - (lg_sl ([.ref (ad 1), .ref (ad 20)])).length) Slot.unset).toArray = ls at hl ⊢
  replace hl : lv_has ls 4 [(0, .ref (ad 1)), (1, .ref (ad 20))] := hl
  refine w_gen (fun Q hQ => ?_)
  refine lv_aload_n hx hb dX8_arrive_0 rfl (lv_at hl 0 rfl) ?_
  refine lv_dup hx hb dX8_arrive_1 rfl ?_
  refine va_get (D := D) (ci := 8) (v := .int (cT_came u)) (C := RX8) (T := TX8) (N := 7) hx hb hts iX8 hown hK hP 1 rfl rfl 4 (by decide) hf26 (fun _ h9 => h9) rfl dX8_arrive_2 ?_
  refine lv_aload_n hx hb dX8_arrive_5 rfl (lv_at hl 0 rfl) ?_
  refine va_get (D := D) (ci := 8) (v := .int (cT_demand u)) (C := RX8) (T := TX8) (N := 7) hx hb hts iX8 hown hK hP 1 rfl rfl 3 (by decide) hf22 (fun _ h9 => h9) rfl dX8_arrive_6 ?_
  refine lv_iadd hx hb dX8_arrive_9 ?_
  refine va_put (D := D) (ci := 8) (v := .int ((cT_came u) + (cT_demand u))) (ty := .int) (C := RX8) (T := TX8) (N := 7) hx hb hts iX8 tyX8 tyX8_ok nmX8 hown hK hP hD hS 1 rfl rfl 4 (by decide) hf26 (fun _ h9 => h9) rfl (by decide +kernel) rfl rfl (Nat.le_of_ble_eq_true rfl) dX8_arrive_10 (fun H locs hP hD hS => ?_)
  obtain ⟨u1, eu1, h⟩ := gx_let h
  replace hP : va_P D vwCl (wC cI cZ ad u1) H := by rw [← eu1]; exact hP
  replace hD : va_D A (wC cI cZ ad u1) := by rw [← eu1]; exact hD
  refine lv_aload_n hx hb dX8_arrive_13 rfl (lv_at hl 0 rfl) ?_
  refine lv_dup hx hb dX8_arrive_14 rfl ?_
  refine va_get (D := D) (ci := 8) (v := .int (cT_waiting u1)) (C := RX8) (T := TX8) (N := 7) hx hb hts iX8 hown hK hP 1 rfl rfl 5 (by decide) hf29 (fun _ h9 => h9) rfl dX8_arrive_15 ?_
  refine lv_aload_n hx hb dX8_arrive_18 rfl (lv_at hl 0 rfl) ?_
  refine va_get (D := D) (ci := 8) (v := .int (cT_demand u1)) (C := RX8) (T := TX8) (N := 7) hx hb hts iX8 hown hK hP 1 rfl rfl 3 (by decide) hf22 (fun _ h9 => h9) rfl dX8_arrive_19 ?_
  refine lv_iadd hx hb dX8_arrive_22 ?_
  refine va_put (D := D) (ci := 8) (v := .int ((cT_waiting u1) + (cT_demand u1))) (ty := .int) (C := RX8) (T := TX8) (N := 7) hx hb hts iX8 tyX8 tyX8_ok nmX8 hown hK hP hD hS 1 rfl rfl 5 (by decide) hf29 (fun _ h9 => h9) rfl (by decide +kernel) rfl rfl (Nat.le_of_ble_eq_true rfl) dX8_arrive_23 (fun H locs hP hD hS => ?_)
  obtain ⟨u2, eu2, h⟩ := gx_let h
  replace hP : va_P D vwCl (wC cI cZ ad u2) H := by rw [← eu2]; exact hP
  replace hD : va_D A (wC cI cZ ad u2) := by rw [← eu2]; exact hD
  refine lv_iconst (v := 0) hx hb dX8_arrive_26 (by decide) ?_
  refine lv_istore_n (lv' := [(2, .int (0 : Int32)), (0, .ref (ad 1)), (1, .ref (ad 20))]) hx hb dX8_arrive_27 rfl hl (by decide) rfl (fun ls hl => ?_)
  have hL28 : ∀ (k : GS → Option (GS)) (hk : ∀ (w28 : GS) (H : Heap) (locs : List Loc) (ls : Array Slot), k w28 = some w' → va_P D vwCl (wC cI cZ ad w28) H → va_D A (wC cI cZ ad w28) → va_S A s.heap H locs → lv_has ls 4 [] → W p l e rX8_arrive s m ([.ref (ad 1), .ref (ad 20)] : List Value).toArray below meth c H locs 0 0 Q (F0 m 79 ls [])) (n : Nat) (x2_28 : Int32) (w28 : GS) (H : Heap) (locs : List Loc) (ls : Array Slot), lp_X8_arrive_28 k n x2_28 w28 = some w' → va_P D vwCl (wC cI cZ ad w28) H → va_D A (wC cI cZ ad w28) → va_S A s.heap H locs → lv_has ls 4 [(0, .ref (ad 1)), (1, .ref (ad 20)), (2, .int x2_28)] → W p l e rX8_arrive s m ([.ref (ad 1), .ref (ad 20)] : List Value).toArray below meth c H locs 0 0 Q (F0 m 28 ls []) := by
    intro k hk n
    induction n with
    | zero =>
      intro x2_28 w28 H locs ls h
      rw [lp_X8_arrive_28] at h
      cases h
    | succ n ih =>
      intro x2_28 w28 H locs ls h hP hD hS hl
      rw [lp_X8_arrive_28] at h
      refine lv_iload_n hx hb dX8_arrive_28 rfl (lv_at hl 2 rfl) ?_
      refine lv_bipush (v := 80) hx hb dX8_arrive_29 (by decide) ?_
      refine lv_icmp_ge (tgt := 79) hx hb dX8_arrive_31 (by decide) (fun c3 => ?_) (fun c3 => ?_)
      · replace h := gx_t c3 h
        exact hk w28 _ _ _ h hP hD hS (lv_sub hl [] rfl)
      · replace h := gx_f c3 h
        refine lv_aload_n hx hb dX8_arrive_34 rfl (lv_at hl 0 rfl) ?_
        refine va_get (D := D) (ci := 8) (v := .int (cT_waiting w28)) (C := RX8) (T := TX8) (N := 7) hx hb hts iX8 hown hK hP 1 rfl rfl 5 (by decide) hf29 (fun _ h9 => h9) rfl dX8_arrive_35 ?_
        refine lv_if_le (tgt := 79) hx hb dX8_arrive_38 (by decide) (fun c4 => ?_) (fun c4 => ?_)
        · replace h := gx_t c4 h
          exact hk w28 _ _ _ h hP hD hS (lv_sub hl [] rfl)
        · replace h := gx_f c4 h
          refine lv_aload_n hx hb dX8_arrive_41 rfl (lv_at hl 0 rfl) ?_
          refine lv_aload_n hx hb dX8_arrive_42 rfl (lv_at hl 1 rfl) ?_
          obtain ⟨y5, hc6, h⟩ := gx_bind h
          refine cc_iV (As := [.ref (ad 20)]) (rest := []) ⟨hx, hb, hml, hown, hts⟩ (k_X8_laneToEnter l D cI cZ ad w28 hc6) (cwV 1 hts (gwV mw_556 mw_558 mw_11 mw_49 mw_559) rfl rfl rfl (by decide +kernel) ⟨Nat.le_of_ble_eq_true rfl, Nat.le_of_ble_eq_true rfl⟩) hK hP hD hS hA hZ (ci := 8) (q0 := 1) rfl rfl rfl hl.1 rfl (Nat.le_of_ble_eq_true rfl) dX8_arrive_43 ⟨Nat.zero_le _, Nat.zero_le _⟩ (fun H locs hP hD hS => ?_)
          refine lv_istore_n (lv' := [(3, .int y5), (0, .ref (ad 1)), (1, .ref (ad 20)), (2, .int x2_28)]) hx hb dX8_arrive_46 rfl hl (by decide) rfl (fun ls hl => ?_)
          refine lv_iload_n hx hb dX8_arrive_47 rfl (lv_at hl 0 rfl) ?_
          refine lv_iconst (v := (-1)) hx hb dX8_arrive_48 (by decide) ?_
          refine lv_icmp_ne (tgt := 53) hx hb dX8_arrive_49 (by decide) (fun c7 => ?_) (fun c7 => ?_)
          · replace h := gx_f c7 h
            refine lv_aload_n hx hb dX8_arrive_53 rfl (lv_at hl 1 rfl) ?_
            refine va_get (D := D) (ci := 8) (v := .ref (ad 10)) (C := RX8) (T := TX8) (N := 7) hx hb hts iX8 hown hK hP 1 rfl rfl 0 (by decide) hf9 (fun _ h9 => h9) rfl dX8_arrive_54 ?_
            refine lv_iload_n hx hb dX8_arrive_57 rfl (lv_at hl 0 rfl) ?_
            refine lv_dup2_11 hx hb dX8_arrive_58 rfl rfl ?_
            obtain ⟨b8, h⟩ := gx_in h
            refine va_iald (D := D) hx hb hK hP 10 0 rfl rfl b8 dX8_arrive_59 ?_
            refine lv_iconst (v := 1) hx hb dX8_arrive_60 (by decide) ?_
            refine lv_iadd hx hb dX8_arrive_61 ?_
            obtain ⟨b9, h⟩ := gx_in h
            refine va_iast (D := D) hx hb hK hP hD hS 10 0 rfl rfl b9 dX8_arrive_62 (fun H locs hP hD hS => ?_)
            obtain ⟨u10, eu10, h⟩ := gx_let h
            replace hP : va_P D vwCl (wC cI cZ ad u10) H := by rw [← eu10]; exact hP
            replace hD : va_D A (wC cI cZ ad u10) := by rw [← eu10]; exact hD
            refine lv_aload_n hx hb dX8_arrive_63 rfl (lv_at hl 1 rfl) ?_
            refine lv_dup hx hb dX8_arrive_64 rfl ?_
            refine va_get (D := D) (ci := 8) (v := .int (cT_waiting u10)) (C := RX8) (T := TX8) (N := 7) hx hb hts iX8 hown hK hP 1 rfl rfl 5 (by decide) hf29 (fun _ h9 => h9) rfl dX8_arrive_65 ?_
            refine lv_iconst (v := 1) hx hb dX8_arrive_68 (by decide) ?_
            refine lv_isub hx hb dX8_arrive_69 ?_
            refine va_put (D := D) (ci := 8) (v := .int ((cT_waiting u10) - (1 : Int32))) (ty := .int) (C := RX8) (T := TX8) (N := 7) hx hb hts iX8 tyX8 tyX8_ok nmX8 hown hK hP hD hS 1 rfl rfl 5 (by decide) hf29 (fun _ h9 => h9) rfl (by decide +kernel) rfl rfl (Nat.le_of_ble_eq_true rfl) dX8_arrive_70 (fun H locs hP hD hS => ?_)
            obtain ⟨u11, eu11, h⟩ := gx_let h
            replace hP : va_P D vwCl (wC cI cZ ad u11) H := by rw [← eu11]; exact hP
            replace hD : va_D A (wC cI cZ ad u11) := by rw [← eu11]; exact hD
            obtain ⟨v12, ev12, h⟩ := gx_let h
            refine lv_iinc (v := v12) (lv' := [(2, .int v12), (3, .int y5), (0, .ref (ad 1)), (1, .ref (ad 20))]) hx hb dX8_arrive_73 hl (k := 3) rfl (by rw [← ev12]; rfl) (by decide) rfl (fun ls hl => ?_)
            refine lv_goto (tgt := 28) hx hb dX8_arrive_76 (by decide) ?_
            exact ih v12 u11 _ _ _ h hP hD hS (lv_sub hl [2, 3, 0] rfl)
          · replace h := gx_t c7 h
            cases h
            exact cc_vret hx hb hr hQ hK hP hD hS dX8_arrive_52 hlocks
  refine hL28 _ (fun w28 H locs ls h hP hD hS hl => ?_) FU (0 : Int32) u2 _ _ _ h hP hD hS (lv_sub hl [1, 2, 0] rfl)
  cases h
  exact cc_vret hx hb hr hQ hK hP hD hS dX8_arrive_79 hlocks

def rX8_judgeBroken : Room := { frames := 1, cells := 0, slots := 0, locals := 24 }
set_option maxHeartbeats 4000000 in
set_option maxRecDepth 100000 in
theorem k_X8_judgeBroken (l : Launch) (D : va_G) (cI cZ : ClassId) (ad : Nat → Nat) (u : GS) {w' : GS} (h : g_X8_judgeBroken u = some w') : MV l yX8_judgeBroken (wm yX8_judgeBroken cX8_judgeBroken 3 none) rX8_judgeBroken D [(cI, .int), (cZ, .boolean)] (wC cI cZ ad u) (wC cI cZ ad w') [.ref (ad 1)] := by
  intro sz
  refine Met.ofW (cc := cX8_judgeBroken) (maxL := 3) (ret := none) (by decide) rfl ?_
  intro p e s m args below meth c s₁ B hml hv
  obtain ⟨rfl, hsz, hP, hK, hD0, hZ⟩ := hv
  have hx := B.exec
  have hb := B.bytes
  have hr := B.returns
  have hts : ∀ w ∈ Wall, w.before _ s = true := fun w hw => atoms_spec (ws := wm yX8_judgeBroken cX8_judgeBroken 3 none) B.pre w (List.mem_cons_of_mem _ hw)
  have hown : s.vm.findClass RX8 = some m.cls := findClass_of_methodNamed B.named
  have hlocks := B.notSynchronized
  subst hsz
  have hD := hD0.self (sz := s.heap.size)
  generalize hAe : va_A (wC cI cZ ad u) s.heap.size = A at hD hZ ⊢
  have hA : ∀ q : Nat, s.heap.size ≤ q → A q := fun q h => by rw [← hAe]; exact Or.inr h
  have hS : va_S A s.heap s.heap [] := va_S.rf
  have hf19 := hts _ mw_84
  have hl := lv_entry ([.ref (ad 1)]) (n := 3) (Nat.le_of_ble_eq_true rfl)
  rw [lg_entry_eq]
  generalize (lg_sl ([.ref (ad 1)]) ++ List.replicate (3 - (lg_sl ([.ref (ad 1)])).length) Slot.unset).toArray = ls at hl ⊢
  replace hl : lv_has ls 3 [(0, .ref (ad 1))] := hl
  refine w_gen (fun Q hQ => ?_)
  refine lv_iconst (v := 0) hx hb dX8_judgeBroken_0 (by decide) ?_
  refine lv_istore_n (lv' := [(1, .int (0 : Int32)), (0, .ref (ad 1))]) hx hb dX8_judgeBroken_1 rfl hl (by decide) rfl (fun ls hl => ?_)
  have hL2 : ∀ (k : GS → Option (GS)) (hk : ∀ (w2 : GS) (H : Heap) (locs : List Loc) (ls : Array Slot), k w2 = some w' → va_P D vwCl (wC cI cZ ad w2) H → va_D A (wC cI cZ ad w2) → va_S A s.heap H locs → lv_has ls 3 [] → W p l e rX8_judgeBroken s m ([.ref (ad 1)] : List Value).toArray below meth c H locs 0 0 Q (F0 m 52 ls [])) (n : Nat) (x1_2 : Int32) (w2 : GS) (H : Heap) (locs : List Loc) (ls : Array Slot), lp_X8_judgeBroken_2 k n x1_2 w2 = some w' → va_P D vwCl (wC cI cZ ad w2) H → va_D A (wC cI cZ ad w2) → va_S A s.heap H locs → lv_has ls 3 [(0, .ref (ad 1)), (1, .int x1_2)] → W p l e rX8_judgeBroken s m ([.ref (ad 1)] : List Value).toArray below meth c H locs 0 0 Q (F0 m 2 ls []) := by
    intro k hk n
    induction n with
    | zero =>
      intro x1_2 w2 H locs ls h
      rw [lp_X8_judgeBroken_2] at h
      cases h
    | succ n ih =>
      intro x1_2 w2 H locs ls h hP hD hS hl
      rw [lp_X8_judgeBroken_2] at h
      refine lv_iload_n hx hb dX8_judgeBroken_2 rfl (lv_at hl 1 rfl) ?_
      refine lv_bipush (v := 12) hx hb dX8_judgeBroken_3 (by decide) ?_
      refine lv_icmp_ge (tgt := 52) hx hb dX8_judgeBroken_5 (by decide) (fun c1 => ?_) (fun c1 => ?_)
      · replace h := gx_t c1 h
        exact hk w2 _ _ _ h hP hD hS (lv_sub hl [] rfl)
      · replace h := gx_f c1 h
        refine lv_aload_n hx hb dX8_judgeBroken_8 rfl (lv_at hl 0 rfl) ?_
        refine lv_iload_n hx hb dX8_judgeBroken_9 rfl (lv_at hl 1 rfl) ?_
        obtain ⟨y2, hc3, h⟩ := gx_bind h
        refine cc_iV (As := [.int x1_2]) (rest := []) ⟨hx, hb, hml, hown, hts⟩ (k_X8_mostIn l D cI cZ ad w2 x1_2 hc3) (cwV 1 hts (gwV mw_372 mw_373 mw_374 mw_49 mw_375) rfl rfl rfl (by decide +kernel) ⟨Nat.le_of_ble_eq_true rfl, Nat.le_of_ble_eq_true rfl⟩) hK hP hD hS hA hZ (ci := 8) (q0 := 1) rfl rfl rfl hl.1 rfl (Nat.le_of_ble_eq_true rfl) dX8_judgeBroken_10 ⟨Nat.zero_le _, Nat.zero_le _⟩ (fun H locs hP hD hS => ?_)
        refine lv_istore_n (lv' := [(2, .int y2), (0, .ref (ad 1)), (1, .int x1_2)]) hx hb dX8_judgeBroken_13 rfl hl (by decide) rfl (fun ls hl => ?_)
        refine lv_aload_n hx hb dX8_judgeBroken_14 rfl (lv_at hl 1 rfl) ?_
        refine va_get (D := D) (ci := 8) (v := .ref (ad 12)) (C := RX8) (T := TX8) (N := 7) hx hb hts iX8 hown hK hP 1 rfl rfl 2 (by decide) hf19 (fun _ h9 => h9) rfl dX8_judgeBroken_15 ?_
        refine lv_iload_n hx hb dX8_judgeBroken_18 rfl (lv_at hl 2 rfl) ?_
        refine lv_iload_n hx hb dX8_judgeBroken_19 rfl (lv_at hl 0 rfl) ?_
        refine lv_bipush (v := 15) hx hb dX8_judgeBroken_20 (by decide) ?_
        obtain ⟨j45_4, ej45_4, h⟩ := gx_let h
        have hj45_4 : ∀ (z0_45 : Int32) (H : Heap) (locs : List Loc) (ls : Array Slot), j45_4 z0_45 = some w' → va_P D vwCl (wC cI cZ ad w2) H → va_D A (wC cI cZ ad w2) → va_S A s.heap H locs → lv_has ls 3 [(0, .ref (ad 1)), (1, .int x1_2)] → W p l e rX8_judgeBroken s m ([.ref (ad 1)] : List Value).toArray below meth c H locs 0 0 Q (F0 m 45 ls [.int z0_45, .int x1_2, .ref (ad 12)]) := by
          intro z0_45 H locs ls h hP hD hS hl
          subst ej45_4
          obtain ⟨b5, h⟩ := gx_in h
          refine va_zast (D := D) hx hb hK hP hD hS 12 1 rfl rfl b5 dX8_judgeBroken_45 (fun H locs hP hD hS => ?_)
          obtain ⟨u6, eu6, h⟩ := gx_let h
          replace hP : va_P D vwCl (wC cI cZ ad u6) H := by rw [← eu6]; exact hP
          replace hD : va_D A (wC cI cZ ad u6) := by rw [← eu6]; exact hD
          obtain ⟨v7, ev7, h⟩ := gx_let h
          refine lv_iinc (v := v7) (lv' := [(1, .int v7), (0, .ref (ad 1))]) hx hb dX8_judgeBroken_46 hl (k := 1) rfl (by rw [← ev7]; rfl) (by decide) rfl (fun ls hl => ?_)
          refine lv_goto (tgt := 2) hx hb dX8_judgeBroken_49 (by decide) ?_
          exact ih v7 u6 _ _ _ h hP hD hS (lv_sub hl [1, 0] rfl)
        obtain ⟨j40_8, ej40_8, h⟩ := gx_let h
        have hj40_8 : ∀ (H : Heap) (locs : List Loc) (ls : Array Slot), j40_8 () = some w' → va_P D vwCl (wC cI cZ ad w2) H → va_D A (wC cI cZ ad w2) → va_S A s.heap H locs → lv_has ls 3 [(0, .ref (ad 1)), (1, .int x1_2)] → W p l e rX8_judgeBroken s m ([.ref (ad 1)] : List Value).toArray below meth c H locs 0 0 Q (F0 m 40 ls [.int x1_2, .ref (ad 12)]) := by
          intro  H locs ls h hP hD hS hl
          subst ej40_8
          refine lv_iconst (v := 1) hx hb dX8_judgeBroken_40 (by decide) ?_
          refine lv_goto (tgt := 45) hx hb dX8_judgeBroken_41 (by decide) ?_
          exact hj45_4 (1 : Int32) _ _ _ h hP hD hS (lv_sub hl [0, 1] rfl)
        refine lv_icmp_ge (tgt := 40) hx hb dX8_judgeBroken_22 (by decide) (fun c9 => ?_) (fun c9 => ?_)
        · replace h := gx_t c9 h
          exact hj40_8 _ _ _ h hP hD hS (lv_sub hl [1, 2] rfl)
        · replace h := gx_f c9 h
          refine lv_aload_n hx hb dX8_judgeBroken_25 rfl (lv_at hl 1 rfl) ?_
          refine va_get (D := D) (ci := 8) (v := .ref (ad 12)) (C := RX8) (T := TX8) (N := 7) hx hb hts iX8 hown hK hP 1 rfl rfl 2 (by decide) hf19 (fun _ h9 => h9) rfl dX8_judgeBroken_26 ?_
          refine lv_iload_n hx hb dX8_judgeBroken_29 rfl (lv_at hl 2 rfl) ?_
          obtain ⟨b10, h⟩ := gx_in h
          refine va_zald (D := D) hx hb hK hP 12 1 rfl rfl b10 dX8_judgeBroken_30 ?_
          obtain ⟨j44_11, ej44_11, h⟩ := gx_let h
          have hj44_11 : ∀ (H : Heap) (locs : List Loc) (ls : Array Slot), j44_11 () = some w' → va_P D vwCl (wC cI cZ ad w2) H → va_D A (wC cI cZ ad w2) → va_S A s.heap H locs → lv_has ls 3 [(0, .ref (ad 1)), (1, .int x1_2)] → W p l e rX8_judgeBroken s m ([.ref (ad 1)] : List Value).toArray below meth c H locs 0 0 Q (F0 m 44 ls [.int x1_2, .ref (ad 12)]) := by
            intro  H locs ls h hP hD hS hl
            subst ej44_11
            refine lv_iconst (v := 0) hx hb dX8_judgeBroken_44 (by decide) ?_
            exact hj45_4 (0 : Int32) _ _ _ h hP hD hS (lv_sub hl [0, 1] rfl)
          refine lv_if_eq (tgt := 44) hx hb dX8_judgeBroken_31 (by decide) (fun c12 => ?_) (fun c12 => ?_)
          · replace h := gx_t c12 h
            exact hj44_11 _ _ _ h hP hD hS (lv_sub hl [1, 2] rfl)
          · replace h := gx_f c12 h
            refine lv_iload_n hx hb dX8_judgeBroken_34 rfl (lv_at hl 0 rfl) ?_
            refine lv_bipush (v := 8) hx hb dX8_judgeBroken_35 (by decide) ?_
            refine lv_icmp_lt (tgt := 44) hx hb dX8_judgeBroken_37 (by decide) (fun c13 => ?_) (fun c13 => ?_)
            · replace h := gx_t c13 h
              exact hj44_11 _ _ _ h hP hD hS (lv_sub hl [1, 2] rfl)
            · replace h := gx_f c13 h
              exact hj40_8 _ _ _ h hP hD hS (lv_sub hl [1, 2] rfl)
  refine hL2 _ (fun w2 H locs ls h hP hD hS hl => ?_) FU (0 : Int32) u _ _ _ h hP hD hS (lv_sub hl [1, 0] rfl)
  cases h
  exact cc_vret hx hb hr hQ hK hP hD hS dX8_judgeBroken_52 hlocks

def rX9_needArgument : Room := { frames := 0, cells := 0, slots := 0, locals := 0 }
set_option maxHeartbeats 4000000 in
set_option maxRecDepth 100000 in
theorem k_X9_needArgument (l : Launch) (D : va_G) (cI cZ : ClassId) (ad : Nat → Nat) (u : GS) (p0 : Int32) {r : Int32} {w' : GS} (h : g_X9_needArgument u p0 = some (.inl r, w')) : MV l yX9_needArgument (wm yX9_needArgument cX9_needArgument 1 none) rX9_needArgument D [(cI, .int), (cZ, .boolean)] (wC cI cZ ad u) (wC cI cZ ad w') [.int p0] := by
  intro sz
  refine Met.ofW (cc := cX9_needArgument) (maxL := 1) (ret := none) (by decide) rfl ?_
  intro p e s m args below meth c s₁ B hml hv
  obtain ⟨rfl, hsz, hP, hK, hD0, hZ⟩ := hv
  have hx := B.exec
  have hb := B.bytes
  have hr := B.returns
  have hts : ∀ w ∈ Wall, w.before _ s = true := fun w hw => atoms_spec (ws := wm yX9_needArgument cX9_needArgument 1 none) B.pre w (List.mem_cons_of_mem _ hw)
  have hown : s.vm.findClass RX9 = some m.cls := findClass_of_methodNamed B.named
  have hlocks := B.notSynchronized
  subst hsz
  have hD := hD0.self (sz := s.heap.size)
  generalize hAe : va_A (wC cI cZ ad u) s.heap.size = A at hD hZ ⊢
  have hA : ∀ q : Nat, s.heap.size ≤ q → A q := fun q h => by rw [← hAe]; exact Or.inr h
  have hS : va_S A s.heap s.heap [] := va_S.rf
  have hl := lv_entry ([.int p0]) (n := 1) (Nat.le_of_ble_eq_true rfl)
  rw [lg_entry_eq]
  generalize (lg_sl ([.int p0]) ++ List.replicate (1 - (lg_sl ([.int p0])).length) Slot.unset).toArray = ls at hl ⊢
  replace hl : lv_has ls 1 [(0, .int p0)] := hl
  refine w_gen (fun Q hQ => ?_)
  refine lv_iload_n hx hb dX9_needArgument_0 rfl (lv_at hl 0 rfl) ?_
  refine lv_if_ne (tgt := 15) hx hb dX9_needArgument_1 (by decide) (fun c1 => ?_) (fun c1 => ?_)
  · replace h := gx_f c1 h
    cases h
    exact cc_vret hx hb hr hQ hK hP hD hS dX9_needArgument_15 hlocks
  · replace h := gx_t c1 h
    cases h

def rx_X9_needArgument : Room := { frames := 6, cells := 1, slots := 6, locals := 90 }
set_option maxHeartbeats 4000000 in
set_option maxRecDepth 100000 in
theorem kx_X9_needArgument (l : Launch) (hl0 : l.stackTraces = false) (D : va_G) (cI cZ : ClassId) (ad : Nat → Nat) (u : GS) (p0 : Int32) {E : String} {w' : GS} (h : g_X9_needArgument u p0 = some (.inr E, w')) : XV l yX9_needArgument (wm yX9_needArgument cX9_needArgument 1 none) rx_X9_needArgument D [(cI, .int), (cZ, .boolean)] (wC cI cZ ad u) (wC cI cZ ad w') [.int p0] E := by
  intro sz
  refine vx_ofW (cc := cX9_needArgument) (maxL := 1) (ret := none) (by decide) rfl ?_
  intro p e s m args below meth c s₁ B hml hout hv
  obtain ⟨rfl, hsz, hP, hK, hD0, hZ⟩ := hv
  have hx := B.exec
  have hb := B.bytes
  have hts : ∀ w ∈ Wall, w.before _ s = true := fun w hw => atoms_spec (ws := wm yX9_needArgument cX9_needArgument 1 none) B.pre w (List.mem_cons_of_mem _ hw)
  have hown : s.vm.findClass RX9 = some m.cls := findClass_of_methodNamed B.named
  have hlocks := B.notSynchronized
  subst hsz
  have hD := hD0.self (sz := s.heap.size)
  generalize hAe : va_A (wC cI cZ ad u) s.heap.size = A at hD hZ
  have hA : ∀ q : Nat, s.heap.size ≤ q → A q := fun q h => by rw [← hAe]; exact Or.inr h
  have hS : va_S A s.heap s.heap [] := va_S.rf
  have hl := lv_entry ([.int p0]) (n := 1) (Nat.le_of_ble_eq_true rfl)
  rw [lg_entry_eq]
  generalize (lg_sl ([.int p0]) ++ List.replicate (1 - (lg_sl ([.int p0])).length) Slot.unset).toArray = ls at hl ⊢
  replace hl : lv_has ls 1 [(0, .int p0)] := hl
  refine w_gen (fun Q hQ => ?_)
  refine lv_iload_n hx hb dX9_needArgument_0 rfl (lv_at hl 0 rfl) ?_
  refine lv_if_ne (tgt := 15) hx hb dX9_needArgument_1 (by decide) (fun c1 => ?_) (fun c1 => ?_)
  · replace h := gx_f c1 h
    cases h
  · replace h := gx_t c1 h
    cases h
    obtain ⟨sa, hstr⟩ := hZ.2.2.2.2.2.2.1
    exact cX_throw (names := ["java/lang/RuntimeException", "java/lang/Exception"]) hx hb hl0 hown (by decide +kernel) (by decide +kernel) (hts _ mw_395) (hts _ mw_63) hstr (fun w h => hts w (at_iae w h)) (by decide +kernel) hZ.2.2.2.2.2.2.2.2 (by decide +kernel) (by decide +kernel) hAe hZ.2.2.2.2.1 hQ hout hlocks hK hP hD hS (hl.1.trans hml.symm) dX9_needArgument_4 dX9_needArgument_7 dX9_needArgument_8 dX9_needArgument_11 dX9_needArgument_14 (Nat.le_of_ble_eq_true rfl) (Nat.le_of_ble_eq_true rfl) (Nat.le_of_ble_eq_true rfl) (Nat.le_of_ble_eq_true rfl)

def rX9_demand : Room := { frames := 1, cells := 0, slots := 0, locals := 22 }
set_option maxHeartbeats 4000000 in
set_option maxRecDepth 100000 in
theorem k_X9_demand (l : Launch) (D : va_G) (cI cZ : ClassId) (ad : Nat → Nat) (u : GS) (p0 : Int32) {r : Int32} {w' : GS} (h : g_X9_demand u p0 = some (.inl r, w')) : MI l yX9_demand (wm yX9_demand cX9_demand 3 (some .int)) rX9_demand D [(cI, .int), (cZ, .boolean)] (wC cI cZ ad u) (wC cI cZ ad w') [.ref (ad 0), .int p0] r := by
  intro sz
  refine Met.ofW (cc := cX9_demand) (maxL := 3) (ret := (some .int)) (by decide) rfl ?_
  intro p e s m args below meth c s₁ B hml hv
  obtain ⟨rfl, hsz, hP, hK, hD0, hZ⟩ := hv
  have hx := B.exec
  have hb := B.bytes
  have hr := B.returns
  have hts : ∀ w ∈ Wall, w.before _ s = true := fun w hw => atoms_spec (ws := wm yX9_demand cX9_demand 3 (some .int)) B.pre w (List.mem_cons_of_mem _ hw)
  have hown : s.vm.findClass RX9 = some m.cls := findClass_of_methodNamed B.named
  have hlocks := B.notSynchronized
  subst hsz
  have hD := hD0.self (sz := s.heap.size)
  generalize hAe : va_A (wC cI cZ ad u) s.heap.size = A at hD hZ ⊢
  have hA : ∀ q : Nat, s.heap.size ≤ q → A q := fun q h => by rw [← hAe]; exact Or.inr h
  have hS : va_S A s.heap s.heap [] := va_S.rf
  have hf16 := hts _ mw_305
  have hf97 := hts _ mw_87
  have hl := lv_entry ([.ref (ad 0), .int p0]) (n := 3) (Nat.le_of_ble_eq_true rfl)
  rw [lg_entry_eq]
  generalize (lg_sl ([.ref (ad 0), .int p0]) ++ List.replicate (3 - (lg_sl ([.ref (ad 0), .int p0])).length) Slot.unset).toArray = ls at hl ⊢
  replace hl : lv_has ls 3 [(0, .ref (ad 0)), (1, .int p0)] := hl
  refine w_gen (fun Q hQ => ?_)
  refine lv_iload_n hx hb dX9_demand_0 rfl (lv_at hl 1 rfl) ?_
  refine lv_iconst (v := 0) hx hb dX9_demand_1 (by decide) ?_
  refine lv_bipush (v := 40) hx hb dX9_demand_2 (by decide) ?_
  obtain ⟨y1, hc2, h⟩ := gx_bind h
  refine cc_iS (As := [.int p0, .int (0 : Int32), .int (40 : Int32)]) (rest := []) ⟨hx, hb, hml, hown, hts⟩ (k_X9_isWithin l D cI cZ ad u p0 (0 : Int32) (40 : Int32) hc2) (va_cwS 3 hts (gwS mw_391 mw_273 mw_48 mw_274) rfl rfl rfl (by decide +kernel) ⟨Nat.le_of_ble_eq_true rfl, Nat.le_of_ble_eq_true rfl⟩) hK hP hD hS hA hZ rfl hl.1 rfl (Nat.le_of_ble_eq_true rfl) dX9_demand_4 ⟨Nat.zero_le _, Nat.zero_le _⟩ (fun H locs hP hD hS => ?_)
  obtain ⟨y3, u4, hc5, h⟩ := gx_xr h
  refine cc_vS (As := [.int y1]) (rest := []) ⟨hx, hb, hml, hown, hts⟩ (k_X9_needArgument l D cI cZ ad u y1 hc5) (va_cwS 1 hts (gwS mw_392 mw_393 mw_48 mw_394) rfl rfl rfl (by decide +kernel) ⟨Nat.le_of_ble_eq_true rfl, Nat.le_of_ble_eq_true rfl⟩) hK hP hD hS hA hZ rfl hl.1 rfl (Nat.le_of_ble_eq_true rfl) dX9_demand_7 ⟨Nat.zero_le _, Nat.zero_le _⟩ (fun H locs hP hD hS => ?_)
  refine lv_aload_n hx hb dX9_demand_10 rfl (lv_at hl 0 rfl) ?_
  refine va_get (D := D) (ci := 9) (v := .ref (ad 1)) (C := RX9) (T := TX9) (N := 10) hx hb hts iX9 hown hK hP 0 rfl rfl 1 (by decide) hf16 (fun _ h9 => h9) rfl dX9_demand_11 ?_
  refine va_get (D := D) (ci := 8) (v := .int (cT_demand u4)) (C := RX8) (T := TX8) (N := 7) hx hb hts iX8 hown hK hP 1 rfl rfl 3 (by decide) hf97 (fun _ h9 => h9) rfl dX9_demand_14 ?_
  obtain ⟨v6, ev6, h⟩ := gx_let h
  refine lv_topn ev6 ?_
  refine lv_istore_n (lv' := [(2, .int v6), (0, .ref (ad 0)), (1, .int p0)]) hx hb dX9_demand_17 rfl hl (by decide) rfl (fun ls hl => ?_)
  refine lv_aload_n hx hb dX9_demand_18 rfl (lv_at hl 1 rfl) ?_
  refine va_get (D := D) (ci := 9) (v := .ref (ad 1)) (C := RX9) (T := TX9) (N := 10) hx hb hts iX9 hown hK hP 0 rfl rfl 1 (by decide) hf16 (fun _ h9 => h9) rfl dX9_demand_19 ?_
  refine lv_iload_n hx hb dX9_demand_22 rfl (lv_at hl 2 rfl) ?_
  refine va_put (D := D) (ci := 8) (v := .int p0) (ty := .int) (C := RX8) (T := TX8) (N := 7) hx hb hts iX8 tyX8 tyX8_ok nmX8 hown hK hP hD hS 1 rfl rfl 3 (by decide) hf97 (fun _ h9 => h9) rfl (by decide +kernel) rfl rfl (Nat.le_of_ble_eq_true rfl) dX9_demand_23 (fun H locs hP hD hS => ?_)
  obtain ⟨u7, eu7, h⟩ := gx_let h
  replace hP : va_P D vwCl (wC cI cZ ad u7) H := by rw [← eu7]; exact hP
  replace hD : va_D A (wC cI cZ ad u7) := by rw [← eu7]; exact hD
  refine lv_iload_n hx hb dX9_demand_26 rfl (lv_at hl 0 rfl) ?_
  cases h
  exact cc_ret hx hb hr rfl hQ hK hP hD hS rfl dX9_demand_27 hlocks

def rx_X9_demand : Room := { frames := 7, cells := 1, slots := 6, locals := 110 }
set_option maxHeartbeats 4000000 in
set_option maxRecDepth 100000 in
theorem kx_X9_demand (l : Launch) (hl0 : l.stackTraces = false) (D : va_G) (cI cZ : ClassId) (ad : Nat → Nat) (u : GS) (p0 : Int32) {E : String} {w' : GS} (h : g_X9_demand u p0 = some (.inr E, w')) : XI l yX9_demand (wm yX9_demand cX9_demand 3 (some .int)) rx_X9_demand D [(cI, .int), (cZ, .boolean)] (wC cI cZ ad u) (wC cI cZ ad w') [.ref (ad 0), .int p0] E := by
  intro sz
  refine vx_ofW (cc := cX9_demand) (maxL := 3) (ret := (some .int)) (by decide) rfl ?_
  intro p e s m args below meth c s₁ B hml hout hv
  obtain ⟨rfl, hsz, hP, hK, hD0, hZ⟩ := hv
  have hx := B.exec
  have hb := B.bytes
  have hts : ∀ w ∈ Wall, w.before _ s = true := fun w hw => atoms_spec (ws := wm yX9_demand cX9_demand 3 (some .int)) B.pre w (List.mem_cons_of_mem _ hw)
  have hown : s.vm.findClass RX9 = some m.cls := findClass_of_methodNamed B.named
  have hlocks := B.notSynchronized
  subst hsz
  have hD := hD0.self (sz := s.heap.size)
  generalize hAe : va_A (wC cI cZ ad u) s.heap.size = A at hD hZ
  have hA : ∀ q : Nat, s.heap.size ≤ q → A q := fun q h => by rw [← hAe]; exact Or.inr h
  have hS : va_S A s.heap s.heap [] := va_S.rf
  have hf16 := hts _ mw_305
  have hf97 := hts _ mw_87
  have hl := lv_entry ([.ref (ad 0), .int p0]) (n := 3) (Nat.le_of_ble_eq_true rfl)
  rw [lg_entry_eq]
  generalize (lg_sl ([.ref (ad 0), .int p0]) ++ List.replicate (3 - (lg_sl ([.ref (ad 0), .int p0])).length) Slot.unset).toArray = ls at hl ⊢
  replace hl : lv_has ls 3 [(0, .ref (ad 0)), (1, .int p0)] := hl
  refine w_gen (fun Q hQ => ?_)
  refine lv_iload_n hx hb dX9_demand_0 rfl (lv_at hl 1 rfl) ?_
  refine lv_iconst (v := 0) hx hb dX9_demand_1 (by decide) ?_
  refine lv_bipush (v := 40) hx hb dX9_demand_2 (by decide) ?_
  obtain ⟨y1, hc2, h⟩ := gx_bind h
  refine cc_iS (As := [.int p0, .int (0 : Int32), .int (40 : Int32)]) (rest := []) ⟨hx, hb, hml, hown, hts⟩ (k_X9_isWithin l D cI cZ ad u p0 (0 : Int32) (40 : Int32) hc2) (va_cwS 3 hts (gwS mw_391 mw_273 mw_48 mw_274) rfl rfl rfl (by decide +kernel) ⟨Nat.le_of_ble_eq_true rfl, Nat.le_of_ble_eq_true rfl⟩) hK hP hD hS hA hZ rfl hl.1 rfl (Nat.le_of_ble_eq_true rfl) dX9_demand_4 ⟨Nat.zero_le _, Nat.zero_le _⟩ (fun H locs hP hD hS => ?_)
  rcases gx_xx h with ⟨y3, u4, hc5, h⟩ | ⟨u4, hc5, ew⟩
  · refine cc_vS (As := [.int y1]) (rest := []) ⟨hx, hb, hml, hown, hts⟩ (k_X9_needArgument l D cI cZ ad u y1 hc5) (va_cwS 1 hts (gwS mw_392 mw_393 mw_48 mw_394) rfl rfl rfl (by decide +kernel) ⟨Nat.le_of_ble_eq_true rfl, Nat.le_of_ble_eq_true rfl⟩) hK hP hD hS hA hZ rfl hl.1 rfl (Nat.le_of_ble_eq_true rfl) dX9_demand_7 ⟨Nat.zero_le _, Nat.zero_le _⟩ (fun H locs hP hD hS => ?_)
    refine lv_aload_n hx hb dX9_demand_10 rfl (lv_at hl 0 rfl) ?_
    refine va_get (D := D) (ci := 9) (v := .ref (ad 1)) (C := RX9) (T := TX9) (N := 10) hx hb hts iX9 hown hK hP 0 rfl rfl 1 (by decide) hf16 (fun _ h9 => h9) rfl dX9_demand_11 ?_
    refine va_get (D := D) (ci := 8) (v := .int (cT_demand u4)) (C := RX8) (T := TX8) (N := 7) hx hb hts iX8 hown hK hP 1 rfl rfl 3 (by decide) hf97 (fun _ h9 => h9) rfl dX9_demand_14 ?_
    obtain ⟨v6, ev6, h⟩ := gx_let h
    refine lv_topn ev6 ?_
    refine lv_istore_n (lv' := [(2, .int v6), (0, .ref (ad 0)), (1, .int p0)]) hx hb dX9_demand_17 rfl hl (by decide) rfl (fun ls hl => ?_)
    refine lv_aload_n hx hb dX9_demand_18 rfl (lv_at hl 1 rfl) ?_
    refine va_get (D := D) (ci := 9) (v := .ref (ad 1)) (C := RX9) (T := TX9) (N := 10) hx hb hts iX9 hown hK hP 0 rfl rfl 1 (by decide) hf16 (fun _ h9 => h9) rfl dX9_demand_19 ?_
    refine lv_iload_n hx hb dX9_demand_22 rfl (lv_at hl 2 rfl) ?_
    refine va_put (D := D) (ci := 8) (v := .int p0) (ty := .int) (C := RX8) (T := TX8) (N := 7) hx hb hts iX8 tyX8 tyX8_ok nmX8 hown hK hP hD hS 1 rfl rfl 3 (by decide) hf97 (fun _ h9 => h9) rfl (by decide +kernel) rfl rfl (Nat.le_of_ble_eq_true rfl) dX9_demand_23 (fun H locs hP hD hS => ?_)
    obtain ⟨u7, eu7, h⟩ := gx_let h
    replace hP : va_P D vwCl (wC cI cZ ad u7) H := by rw [← eu7]; exact hP
    replace hD : va_D A (wC cI cZ ad u7) := by rw [← eu7]; exact hD
    refine lv_iload_n hx hb dX9_demand_26 rfl (lv_at hl 0 rfl) ?_
    cases h
  · replace ew : u4 = w' := ew
    subst ew
    refine cX_vS (As := [.int y1]) (rest := []) ⟨hx, hb, hml, hown, hts⟩ (kx_X9_needArgument l hl0 D cI cZ ad u y1 hc5) (va_cwS 1 hts (gwS mw_392 mw_393 mw_48 mw_394) rfl rfl rfl (by decide +kernel) ⟨Nat.le_of_ble_eq_true rfl, Nat.le_of_ble_eq_true rfl⟩) hK hP hD hS hA hZ rfl hl.1 rfl (Nat.le_of_ble_eq_true rfl) dX9_demand_7 ⟨Nat.le_of_ble_eq_true rfl, Nat.le_of_ble_eq_true rfl⟩ (fun ce q9 H locs hP hD hS h1 h2 h3 => ?_)
    exact cX_back hAe hQ hout hlocks hK rfl hP hD hS h1 h2 h3 (Nat.le_refl _) (Nat.le_refl _)

def rX9_needState : Room := { frames := 0, cells := 0, slots := 0, locals := 0 }
set_option maxHeartbeats 4000000 in
set_option maxRecDepth 100000 in
theorem k_X9_needState (l : Launch) (D : va_G) (cI cZ : ClassId) (ad : Nat → Nat) (u : GS) (p0 : Int32) {r : Int32} {w' : GS} (h : g_X9_needState u p0 = some (.inl r, w')) : MV l yX9_needState (wm yX9_needState cX9_needState 1 none) rX9_needState D [(cI, .int), (cZ, .boolean)] (wC cI cZ ad u) (wC cI cZ ad w') [.int p0] := by
  intro sz
  refine Met.ofW (cc := cX9_needState) (maxL := 1) (ret := none) (by decide) rfl ?_
  intro p e s m args below meth c s₁ B hml hv
  obtain ⟨rfl, hsz, hP, hK, hD0, hZ⟩ := hv
  have hx := B.exec
  have hb := B.bytes
  have hr := B.returns
  have hts : ∀ w ∈ Wall, w.before _ s = true := fun w hw => atoms_spec (ws := wm yX9_needState cX9_needState 1 none) B.pre w (List.mem_cons_of_mem _ hw)
  have hown : s.vm.findClass RX9 = some m.cls := findClass_of_methodNamed B.named
  have hlocks := B.notSynchronized
  subst hsz
  have hD := hD0.self (sz := s.heap.size)
  generalize hAe : va_A (wC cI cZ ad u) s.heap.size = A at hD hZ ⊢
  have hA : ∀ q : Nat, s.heap.size ≤ q → A q := fun q h => by rw [← hAe]; exact Or.inr h
  have hS : va_S A s.heap s.heap [] := va_S.rf
  have hl := lv_entry ([.int p0]) (n := 1) (Nat.le_of_ble_eq_true rfl)
  rw [lg_entry_eq]
  generalize (lg_sl ([.int p0]) ++ List.replicate (1 - (lg_sl ([.int p0])).length) Slot.unset).toArray = ls at hl ⊢
  replace hl : lv_has ls 1 [(0, .int p0)] := hl
  refine w_gen (fun Q hQ => ?_)
  refine lv_iload_n hx hb dX9_needState_0 rfl (lv_at hl 0 rfl) ?_
  refine lv_if_ne (tgt := 15) hx hb dX9_needState_1 (by decide) (fun c1 => ?_) (fun c1 => ?_)
  · replace h := gx_f c1 h
    cases h
    exact cc_vret hx hb hr hQ hK hP hD hS dX9_needState_15 hlocks
  · replace h := gx_t c1 h
    cases h

def rx_X9_needState : Room := { frames := 6, cells := 1, slots := 6, locals := 90 }
set_option maxHeartbeats 4000000 in
set_option maxRecDepth 100000 in
theorem kx_X9_needState (l : Launch) (hl0 : l.stackTraces = false) (D : va_G) (cI cZ : ClassId) (ad : Nat → Nat) (u : GS) (p0 : Int32) {E : String} {w' : GS} (h : g_X9_needState u p0 = some (.inr E, w')) : XV l yX9_needState (wm yX9_needState cX9_needState 1 none) rx_X9_needState D [(cI, .int), (cZ, .boolean)] (wC cI cZ ad u) (wC cI cZ ad w') [.int p0] E := by
  intro sz
  refine vx_ofW (cc := cX9_needState) (maxL := 1) (ret := none) (by decide) rfl ?_
  intro p e s m args below meth c s₁ B hml hout hv
  obtain ⟨rfl, hsz, hP, hK, hD0, hZ⟩ := hv
  have hx := B.exec
  have hb := B.bytes
  have hts : ∀ w ∈ Wall, w.before _ s = true := fun w hw => atoms_spec (ws := wm yX9_needState cX9_needState 1 none) B.pre w (List.mem_cons_of_mem _ hw)
  have hown : s.vm.findClass RX9 = some m.cls := findClass_of_methodNamed B.named
  have hlocks := B.notSynchronized
  subst hsz
  have hD := hD0.self (sz := s.heap.size)
  generalize hAe : va_A (wC cI cZ ad u) s.heap.size = A at hD hZ
  have hA : ∀ q : Nat, s.heap.size ≤ q → A q := fun q h => by rw [← hAe]; exact Or.inr h
  have hS : va_S A s.heap s.heap [] := va_S.rf
  have hl := lv_entry ([.int p0]) (n := 1) (Nat.le_of_ble_eq_true rfl)
  rw [lg_entry_eq]
  generalize (lg_sl ([.int p0]) ++ List.replicate (1 - (lg_sl ([.int p0])).length) Slot.unset).toArray = ls at hl ⊢
  replace hl : lv_has ls 1 [(0, .int p0)] := hl
  refine w_gen (fun Q hQ => ?_)
  refine lv_iload_n hx hb dX9_needState_0 rfl (lv_at hl 0 rfl) ?_
  refine lv_if_ne (tgt := 15) hx hb dX9_needState_1 (by decide) (fun c1 => ?_) (fun c1 => ?_)
  · replace h := gx_f c1 h
    cases h
  · replace h := gx_t c1 h
    cases h
    obtain ⟨sa, hstr⟩ := hZ.2.2.2.2.2.2.2.1
    exact cX_throw (names := ["java/lang/RuntimeException", "java/lang/Exception"]) hx hb hl0 hown (by decide +kernel) (by decide +kernel) (hts _ mw_474) (hts _ mw_64) hstr (fun w h => hts w (at_ise w h)) (by decide +kernel) hZ.2.2.2.2.2.2.2.2 (by decide +kernel) (by decide +kernel) hAe hZ.2.2.2.2.1 hQ hout hlocks hK hP hD hS (hl.1.trans hml.symm) dX9_needState_4 dX9_needState_7 dX9_needState_8 dX9_needState_11 dX9_needState_14 (Nat.le_of_ble_eq_true rfl) (Nat.le_of_ble_eq_true rfl) (Nat.le_of_ble_eq_true rfl) (Nat.le_of_ble_eq_true rfl)

def rX9_endWorkOf : Room := { frames := 3, cells := 0, slots := 0, locals := 64 }
set_option maxHeartbeats 4000000 in
set_option maxRecDepth 100000 in
theorem k_X9_endWorkOf (l : Launch) (D : va_G) (cI cZ : ClassId) (ad : Nat → Nat) (u : GS) (p0 : Int32) {w' : GS} (h : g_X9_endWorkOf u p0 = some w') : MV l yX9_endWorkOf (wm yX9_endWorkOf cX9_endWorkOf 3 none) rX9_endWorkOf D [(cI, .int), (cZ, .boolean)] (wC cI cZ ad u) (wC cI cZ ad w') [.ref (ad 0), .int p0] := by
  intro sz
  refine Met.ofW (cc := cX9_endWorkOf) (maxL := 3) (ret := none) (by decide) rfl ?_
  intro p e s m args below meth c s₁ B hml hv
  obtain ⟨rfl, hsz, hP, hK, hD0, hZ⟩ := hv
  have hx := B.exec
  have hb := B.bytes
  have hr := B.returns
  have hts : ∀ w ∈ Wall, w.before _ s = true := fun w hw => atoms_spec (ws := wm yX9_endWorkOf cX9_endWorkOf 3 none) B.pre w (List.mem_cons_of_mem _ hw)
  have hown : s.vm.findClass RX9 = some m.cls := findClass_of_methodNamed B.named
  have hlocks := B.notSynchronized
  subst hsz
  have hD := hD0.self (sz := s.heap.size)
  generalize hAe : va_A (wC cI cZ ad u) s.heap.size = A at hD hZ ⊢
  have hA : ∀ q : Nat, s.heap.size ≤ q → A q := fun q h => by rw [← hAe]; exact Or.inr h
  have hS : va_S A s.heap s.heap [] := va_S.rf
  have hf58 := hts _ mw_311
  have hf229 := hts _ mw_211
  have hf51 := hts _ mw_310
  have hf16 := hts _ mw_305
  have hf209 := hts _ mw_187
  have hf206 := hts _ mw_189
  have hf218 := hts _ mw_191
  have hf223 := hts _ mw_209
  have hl := lv_entry ([.ref (ad 0), .int p0]) (n := 3) (Nat.le_of_ble_eq_true rfl)
  rw [lg_entry_eq]
  generalize (lg_sl ([.ref (ad 0), .int p0]) ++ List.replicate (3 - (lg_sl ([.ref (ad 0), .int p0])).length) Slot.unset).toArray = ls at hl ⊢
  replace hl : lv_has ls 3 [(0, .ref (ad 0)), (1, .int p0)] := hl
  refine w_gen (fun Q hQ => ?_)
  refine lv_aload_n hx hb dX9_endWorkOf_0 rfl (lv_at hl 0 rfl) ?_
  refine va_get (D := D) (ci := 9) (v := .ref (ad 7)) (C := RX9) (T := TX9) (N := 10) hx hb hts iX9 hown hK hP 0 rfl rfl 7 (by decide) hf58 (fun _ h9 => h9) rfl dX9_endWorkOf_1 ?_
  refine va_get (D := D) (ci := 4) (v := .ref (ad 27)) (C := RX4) (T := TX4) (N := 3) hx hb hts iX4 hown hK hP 7 rfl rfl 1 (by decide) hf229 (fun _ h9 => h9) rfl dX9_endWorkOf_4 ?_
  refine lv_iload_n hx hb dX9_endWorkOf_7 rfl (lv_at hl 1 rfl) ?_
  obtain ⟨b1, h⟩ := gx_in h
  refine va_iald (D := D) hx hb hK hP 27 0 rfl rfl b1 dX9_endWorkOf_8 ?_
  obtain ⟨v2, ev2, h⟩ := gx_let h
  refine lv_topn ev2 ?_
  refine lv_istore_n (lv' := [(2, .int v2), (0, .ref (ad 0)), (1, .int p0)]) hx hb dX9_endWorkOf_9 rfl hl (by decide) rfl (fun ls hl => ?_)
  refine lv_aload_n hx hb dX9_endWorkOf_10 rfl (lv_at hl 1 rfl) ?_
  refine va_get (D := D) (ci := 9) (v := .ref (ad 6)) (C := RX9) (T := TX9) (N := 10) hx hb hts iX9 hown hK hP 0 rfl rfl 6 (by decide) hf51 (fun _ h9 => h9) rfl dX9_endWorkOf_11 ?_
  refine lv_iload_n hx hb dX9_endWorkOf_14 rfl (lv_at hl 0 rfl) ?_
  obtain ⟨y3, hc4, h⟩ := gx_bind h
  refine cc_iV (As := [.int v2]) (rest := []) ⟨hx, hb, hml, hown, hts⟩ (k_X2_has l D cI cZ ad u v2 hc4) (cwV 1 hts (gwV mw_502 mw_503 mw_504 mw_54 mw_505) rfl rfl rfl (by decide +kernel) ⟨Nat.le_of_ble_eq_true rfl, Nat.le_of_ble_eq_true rfl⟩) hK hP hD hS hA hZ (ci := 2) (q0 := 6) rfl rfl rfl hl.1 rfl (Nat.le_of_ble_eq_true rfl) dX9_endWorkOf_15 ⟨Nat.zero_le _, Nat.zero_le _⟩ (fun H locs hP hD hS => ?_)
  obtain ⟨j74_5, ej74_5, h⟩ := gx_let h
  have hj74_5 : ∀ (w74 : GS) (H : Heap) (locs : List Loc) (ls : Array Slot), j74_5 w74 = some w' → va_P D vwCl (wC cI cZ ad w74) H → va_D A (wC cI cZ ad w74) → va_S A s.heap H locs → lv_has ls 3 [(0, .ref (ad 0)), (1, .int p0)] → W p l e rX9_endWorkOf s m ([.ref (ad 0), .int p0] : List Value).toArray below meth c H locs 0 0 Q (F0 m 74 ls []) := by
    intro w74 H locs ls h hP hD hS hl
    subst ej74_5
    refine lv_aload_n hx hb dX9_endWorkOf_74 rfl (lv_at hl 0 rfl) ?_
    refine va_get (D := D) (ci := 9) (v := .ref (ad 7)) (C := RX9) (T := TX9) (N := 10) hx hb hts iX9 hown hK hP 0 rfl rfl 7 (by decide) hf58 (fun _ h9 => h9) rfl dX9_endWorkOf_75 ?_
    refine va_get (D := D) (ci := 4) (v := .ref (ad 27)) (C := RX4) (T := TX4) (N := 3) hx hb hts iX4 hown hK hP 7 rfl rfl 1 (by decide) hf229 (fun _ h9 => h9) rfl dX9_endWorkOf_78 ?_
    refine lv_iload_n hx hb dX9_endWorkOf_81 rfl (lv_at hl 1 rfl) ?_
    refine lv_iconst (v := (-1)) hx hb dX9_endWorkOf_82 (by decide) ?_
    obtain ⟨b6, h⟩ := gx_in h
    refine va_iast (D := D) hx hb hK hP hD hS 27 0 rfl rfl b6 dX9_endWorkOf_83 (fun H locs hP hD hS => ?_)
    obtain ⟨u7, eu7, h⟩ := gx_let h
    replace hP : va_P D vwCl (wC cI cZ ad u7) H := by rw [← eu7]; exact hP
    replace hD : va_D A (wC cI cZ ad u7) := by rw [← eu7]; exact hD
    cases h
    exact cc_vret hx hb hr hQ hK hP hD hS dX9_endWorkOf_84 hlocks
  refine lv_if_eq (tgt := 74) hx hb dX9_endWorkOf_18 (by decide) (fun c8 => ?_) (fun c8 => ?_)
  · replace h := gx_t c8 h
    exact hj74_5 u _ _ _ h hP hD hS (lv_sub hl [1, 2] rfl)
  · replace h := gx_f c8 h
    refine lv_aload_n hx hb dX9_endWorkOf_21 rfl (lv_at hl 1 rfl) ?_
    refine va_get (D := D) (ci := 9) (v := .ref (ad 1)) (C := RX9) (T := TX9) (N := 10) hx hb hts iX9 hown hK hP 0 rfl rfl 1 (by decide) hf16 (fun _ h9 => h9) rfl dX9_endWorkOf_22 ?_
    refine lv_aload_n hx hb dX9_endWorkOf_25 rfl (lv_at hl 1 rfl) ?_
    refine va_get (D := D) (ci := 9) (v := .ref (ad 6)) (C := RX9) (T := TX9) (N := 10) hx hb hts iX9 hown hK hP 0 rfl rfl 6 (by decide) hf51 (fun _ h9 => h9) rfl dX9_endWorkOf_26 ?_
    refine va_get (D := D) (ci := 2) (v := .ref (ad 23)) (C := RX2) (T := TX2) (N := 4) hx hb hts iX2 hown hK hP 6 rfl rfl 0 (by decide) hf209 (fun _ h9 => h9) rfl dX9_endWorkOf_29 ?_
    refine lv_iload_n hx hb dX9_endWorkOf_32 rfl (lv_at hl 0 rfl) ?_
    obtain ⟨b9, h⟩ := gx_in h
    refine va_iald (D := D) hx hb hK hP 23 0 rfl rfl b9 dX9_endWorkOf_33 ?_
    obtain ⟨y10, hc11, h⟩ := gx_bind h
    refine cc_vV (As := [.int (cI_places u v2.toNatClampNeg)]) (rest := []) ⟨hx, hb, hml, hown, hts⟩ (k_X8_clearStopped l D cI cZ ad u (cI_places u v2.toNatClampNeg) hc11) (cwV 1 hts (gwV mw_506 mw_507 mw_508 mw_49 mw_509) rfl rfl rfl (by decide +kernel) ⟨Nat.le_of_ble_eq_true rfl, Nat.le_of_ble_eq_true rfl⟩) hK hP hD hS hA hZ (ci := 8) (q0 := 1) rfl rfl rfl hl.1 rfl (Nat.le_of_ble_eq_true rfl) dX9_endWorkOf_34 ⟨Nat.zero_le _, Nat.zero_le _⟩ (fun H locs hP hD hS => ?_)
    refine lv_aload_n hx hb dX9_endWorkOf_37 rfl (lv_at hl 1 rfl) ?_
    refine va_get (D := D) (ci := 9) (v := .ref (ad 6)) (C := RX9) (T := TX9) (N := 10) hx hb hts iX9 hown hK hP 0 rfl rfl 6 (by decide) hf51 (fun _ h9 => h9) rfl dX9_endWorkOf_38 ?_
    refine va_get (D := D) (ci := 2) (v := .ref (ad 24)) (C := RX2) (T := TX2) (N := 4) hx hb hts iX2 hown hK hP 6 rfl rfl 1 (by decide) hf206 (fun _ h9 => h9) rfl dX9_endWorkOf_41 ?_
    refine lv_iload_n hx hb dX9_endWorkOf_44 rfl (lv_at hl 0 rfl) ?_
    refine lv_iconst (v := 2) hx hb dX9_endWorkOf_45 (by decide) ?_
    obtain ⟨b12, h⟩ := gx_in h
    refine va_iast (D := D) hx hb hK hP hD hS 24 0 rfl rfl b12 dX9_endWorkOf_46 (fun H locs hP hD hS => ?_)
    obtain ⟨u13, eu13, h⟩ := gx_let h
    replace hP : va_P D vwCl (wC cI cZ ad u13) H := by rw [← eu13]; exact hP
    replace hD : va_D A (wC cI cZ ad u13) := by rw [← eu13]; exact hD
    refine lv_aload_n hx hb dX9_endWorkOf_47 rfl (lv_at hl 1 rfl) ?_
    refine va_get (D := D) (ci := 9) (v := .ref (ad 6)) (C := RX9) (T := TX9) (N := 10) hx hb hts iX9 hown hK hP 0 rfl rfl 6 (by decide) hf51 (fun _ h9 => h9) rfl dX9_endWorkOf_48 ?_
    refine va_get (D := D) (ci := 2) (v := .ref (ad 25)) (C := RX2) (T := TX2) (N := 4) hx hb hts iX2 hown hK hP 6 rfl rfl 2 (by decide) hf218 (fun _ h9 => h9) rfl dX9_endWorkOf_51 ?_
    refine lv_iload_n hx hb dX9_endWorkOf_54 rfl (lv_at hl 0 rfl) ?_
    refine lv_iconst (v := (-1)) hx hb dX9_endWorkOf_55 (by decide) ?_
    obtain ⟨b14, h⟩ := gx_in h
    refine va_iast (D := D) hx hb hK hP hD hS 25 0 rfl rfl b14 dX9_endWorkOf_56 (fun H locs hP hD hS => ?_)
    obtain ⟨u15, eu15, h⟩ := gx_let h
    replace hP : va_P D vwCl (wC cI cZ ad u15) H := by rw [← eu15]; exact hP
    replace hD : va_D A (wC cI cZ ad u15) := by rw [← eu15]; exact hD
    refine lv_aload_n hx hb dX9_endWorkOf_57 rfl (lv_at hl 1 rfl) ?_
    refine va_get (D := D) (ci := 9) (v := .ref (ad 7)) (C := RX9) (T := TX9) (N := 10) hx hb hts iX9 hown hK hP 0 rfl rfl 7 (by decide) hf58 (fun _ h9 => h9) rfl dX9_endWorkOf_58 ?_
    refine va_get (D := D) (ci := 4) (v := .ref (ad 26)) (C := RX4) (T := TX4) (N := 3) hx hb hts iX4 hown hK hP 7 rfl rfl 0 (by decide) hf223 (fun _ h9 => h9) rfl dX9_endWorkOf_61 ?_
    refine lv_iload_n hx hb dX9_endWorkOf_64 rfl (lv_at hl 2 rfl) ?_
    refine lv_aload_n hx hb dX9_endWorkOf_65 rfl (lv_at hl 1 rfl) ?_
    refine va_get (D := D) (ci := 9) (v := .ref (ad 6)) (C := RX9) (T := TX9) (N := 10) hx hb hts iX9 hown hK hP 0 rfl rfl 6 (by decide) hf51 (fun _ h9 => h9) rfl dX9_endWorkOf_66 ?_
    refine lv_iload_n hx hb dX9_endWorkOf_69 rfl (lv_at hl 0 rfl) ?_
    obtain ⟨y16, hc17, h⟩ := gx_bind h
    refine cc_iV (As := [.int v2]) (rest := [.int p0, .ref (ad 26)]) ⟨hx, hb, hml, hown, hts⟩ (k_X2_sectionOf l D cI cZ ad u15 v2 hc17) (cwV 1 hts (gwV mw_511 mw_512 mw_513 mw_54 mw_514) rfl rfl rfl (by decide +kernel) ⟨Nat.le_of_ble_eq_true rfl, Nat.le_of_ble_eq_true rfl⟩) hK hP hD hS hA hZ (ci := 2) (q0 := 6) rfl rfl rfl hl.1 rfl (Nat.le_of_ble_eq_true rfl) dX9_endWorkOf_70 ⟨Nat.zero_le _, Nat.zero_le _⟩ (fun H locs hP hD hS => ?_)
    obtain ⟨b18, h⟩ := gx_in h
    refine va_iast (D := D) hx hb hK hP hD hS 26 0 rfl rfl b18 dX9_endWorkOf_73 (fun H locs hP hD hS => ?_)
    obtain ⟨u19, eu19, h⟩ := gx_let h
    replace hP : va_P D vwCl (wC cI cZ ad u19) H := by rw [← eu19]; exact hP
    replace hD : va_D A (wC cI cZ ad u19) := by rw [← eu19]; exact hD
    exact hj74_5 u19 _ _ _ h hP hD hS (lv_sub hl [1, 2] rfl)

def rX9_movePatrols : Room := { frames := 4, cells := 0, slots := 0, locals := 86 }
set_option maxHeartbeats 4000000 in
set_option maxRecDepth 100000 in
theorem k_X9_movePatrols (l : Launch) (D : va_G) (cI cZ : ClassId) (ad : Nat → Nat) (u : GS) {w' : GS} (h : g_X9_movePatrols u = some w') : MV l yX9_movePatrols (wm yX9_movePatrols cX9_movePatrols 2 none) rX9_movePatrols D [(cI, .int), (cZ, .boolean)] (wC cI cZ ad u) (wC cI cZ ad w') [.ref (ad 0)] := by
  intro sz
  refine Met.ofW (cc := cX9_movePatrols) (maxL := 2) (ret := none) (by decide) rfl ?_
  intro p e s m args below meth c s₁ B hml hv
  obtain ⟨rfl, hsz, hP, hK, hD0, hZ⟩ := hv
  have hx := B.exec
  have hb := B.bytes
  have hr := B.returns
  have hts : ∀ w ∈ Wall, w.before _ s = true := fun w hw => atoms_spec (ws := wm yX9_movePatrols cX9_movePatrols 2 none) B.pre w (List.mem_cons_of_mem _ hw)
  have hown : s.vm.findClass RX9 = some m.cls := findClass_of_methodNamed B.named
  have hlocks := B.notSynchronized
  subst hsz
  have hD := hD0.self (sz := s.heap.size)
  generalize hAe : va_A (wC cI cZ ad u) s.heap.size = A at hD hZ ⊢
  have hA : ∀ q : Nat, s.heap.size ≤ q → A q := fun q h => by rw [← hAe]; exact Or.inr h
  have hS : va_S A s.heap s.heap [] := va_S.rf
  have hf58 := hts _ mw_311
  have hf229 := hts _ mw_211
  have hf231 := hts _ mw_213
  have hl := lv_entry ([.ref (ad 0)]) (n := 2) (Nat.le_of_ble_eq_true rfl)
  rw [lg_entry_eq]
  generalize (lg_sl ([.ref (ad 0)]) ++ List.replicate (2 - (lg_sl ([.ref (ad 0)])).length) Slot.unset).toArray = ls at hl ⊢
  replace hl : lv_has ls 2 [(0, .ref (ad 0))] := hl
  refine w_gen (fun Q hQ => ?_)
  refine lv_iconst (v := 0) hx hb dX9_movePatrols_0 (by decide) ?_
  refine lv_istore_n (lv' := [(1, .int (0 : Int32)), (0, .ref (ad 0))]) hx hb dX9_movePatrols_1 rfl hl (by decide) rfl (fun ls hl => ?_)
  have hL2 : ∀ (k : GS → Option (GS)) (hk : ∀ (w2 : GS) (H : Heap) (locs : List Loc) (ls : Array Slot), k w2 = some w' → va_P D vwCl (wC cI cZ ad w2) H → va_D A (wC cI cZ ad w2) → va_S A s.heap H locs → lv_has ls 2 [] → W p l e rX9_movePatrols s m ([.ref (ad 0)] : List Value).toArray below meth c H locs 0 0 Q (F0 m 56 ls [])) (n : Nat) (x1_2 : Int32) (w2 : GS) (H : Heap) (locs : List Loc) (ls : Array Slot), lp_X9_movePatrols_2 k n x1_2 w2 = some w' → va_P D vwCl (wC cI cZ ad w2) H → va_D A (wC cI cZ ad w2) → va_S A s.heap H locs → lv_has ls 2 [(0, .ref (ad 0)), (1, .int x1_2)] → W p l e rX9_movePatrols s m ([.ref (ad 0)] : List Value).toArray below meth c H locs 0 0 Q (F0 m 2 ls []) := by
    intro k hk n
    induction n with
    | zero =>
      intro x1_2 w2 H locs ls h
      rw [lp_X9_movePatrols_2] at h
      cases h
    | succ n ih =>
      intro x1_2 w2 H locs ls h hP hD hS hl
      rw [lp_X9_movePatrols_2] at h
      refine lv_iload_n hx hb dX9_movePatrols_2 rfl (lv_at hl 1 rfl) ?_
      refine lv_iconst (v := 3) hx hb dX9_movePatrols_3 (by decide) ?_
      refine lv_icmp_ge (tgt := 56) hx hb dX9_movePatrols_4 (by decide) (fun c1 => ?_) (fun c1 => ?_)
      · replace h := gx_t c1 h
        exact hk w2 _ _ _ h hP hD hS (lv_sub hl [] rfl)
      · replace h := gx_f c1 h
        refine lv_aload_n hx hb dX9_movePatrols_7 rfl (lv_at hl 0 rfl) ?_
        refine va_get (D := D) (ci := 9) (v := .ref (ad 7)) (C := RX9) (T := TX9) (N := 10) hx hb hts iX9 hown hK hP 0 rfl rfl 7 (by decide) hf58 (fun _ h9 => h9) rfl dX9_movePatrols_8 ?_
        refine va_get (D := D) (ci := 4) (v := .ref (ad 27)) (C := RX4) (T := TX4) (N := 3) hx hb hts iX4 hown hK hP 7 rfl rfl 1 (by decide) hf229 (fun _ h9 => h9) rfl dX9_movePatrols_11 ?_
        refine lv_iload_n hx hb dX9_movePatrols_14 rfl (lv_at hl 1 rfl) ?_
        obtain ⟨b2, h⟩ := gx_in h
        refine va_iald (D := D) hx hb hK hP 27 0 rfl rfl b2 dX9_movePatrols_15 ?_
        refine lv_iconst (v := (-1)) hx hb dX9_movePatrols_16 (by decide) ?_
        obtain ⟨j50_3, ej50_3, h⟩ := gx_let h
        have hj50_3 : ∀ (w50 : GS) (H : Heap) (locs : List Loc) (ls : Array Slot), j50_3 w50 = some w' → va_P D vwCl (wC cI cZ ad w50) H → va_D A (wC cI cZ ad w50) → va_S A s.heap H locs → lv_has ls 2 [(0, .ref (ad 0)), (1, .int x1_2)] → W p l e rX9_movePatrols s m ([.ref (ad 0)] : List Value).toArray below meth c H locs 0 0 Q (F0 m 50 ls []) := by
          intro w50 H locs ls h hP hD hS hl
          subst ej50_3
          obtain ⟨v4, ev4, h⟩ := gx_let h
          refine lv_iinc (v := v4) (lv' := [(1, .int v4), (0, .ref (ad 0))]) hx hb dX9_movePatrols_50 hl (k := 1) rfl (by rw [← ev4]; rfl) (by decide) rfl (fun ls hl => ?_)
          refine lv_goto (tgt := 2) hx hb dX9_movePatrols_53 (by decide) ?_
          exact ih v4 w50 _ _ _ h hP hD hS (lv_sub hl [1, 0] rfl)
        refine lv_icmp_eq (tgt := 50) hx hb dX9_movePatrols_17 (by decide) (fun c5 => ?_) (fun c5 => ?_)
        · replace h := gx_t c5 h
          exact hj50_3 w2 _ _ _ h hP hD hS (lv_sub hl [0, 1] rfl)
        · replace h := gx_f c5 h
          refine lv_aload_n hx hb dX9_movePatrols_20 rfl (lv_at hl 0 rfl) ?_
          refine va_get (D := D) (ci := 9) (v := .ref (ad 7)) (C := RX9) (T := TX9) (N := 10) hx hb hts iX9 hown hK hP 0 rfl rfl 7 (by decide) hf58 (fun _ h9 => h9) rfl dX9_movePatrols_21 ?_
          refine va_get (D := D) (ci := 4) (v := .ref (ad 28)) (C := RX4) (T := TX4) (N := 3) hx hb hts iX4 hown hK hP 7 rfl rfl 2 (by decide) hf231 (fun _ h9 => h9) rfl dX9_movePatrols_24 ?_
          refine lv_iload_n hx hb dX9_movePatrols_27 rfl (lv_at hl 1 rfl) ?_
          refine lv_dup2_11 hx hb dX9_movePatrols_28 rfl rfl ?_
          obtain ⟨b6, h⟩ := gx_in h
          refine va_iald (D := D) hx hb hK hP 28 0 rfl rfl b6 dX9_movePatrols_29 ?_
          refine lv_iconst (v := 1) hx hb dX9_movePatrols_30 (by decide) ?_
          refine lv_isub hx hb dX9_movePatrols_31 ?_
          obtain ⟨b7, h⟩ := gx_in h
          refine va_iast (D := D) hx hb hK hP hD hS 28 0 rfl rfl b7 dX9_movePatrols_32 (fun H locs hP hD hS => ?_)
          obtain ⟨u8, eu8, h⟩ := gx_let h
          replace hP : va_P D vwCl (wC cI cZ ad u8) H := by rw [← eu8]; exact hP
          replace hD : va_D A (wC cI cZ ad u8) := by rw [← eu8]; exact hD
          refine lv_aload_n hx hb dX9_movePatrols_33 rfl (lv_at hl 0 rfl) ?_
          refine va_get (D := D) (ci := 9) (v := .ref (ad 7)) (C := RX9) (T := TX9) (N := 10) hx hb hts iX9 hown hK hP 0 rfl rfl 7 (by decide) hf58 (fun _ h9 => h9) rfl dX9_movePatrols_34 ?_
          refine va_get (D := D) (ci := 4) (v := .ref (ad 28)) (C := RX4) (T := TX4) (N := 3) hx hb hts iX4 hown hK hP 7 rfl rfl 2 (by decide) hf231 (fun _ h9 => h9) rfl dX9_movePatrols_37 ?_
          refine lv_iload_n hx hb dX9_movePatrols_40 rfl (lv_at hl 1 rfl) ?_
          obtain ⟨b9, h⟩ := gx_in h
          refine va_iald (D := D) hx hb hK hP 28 0 rfl rfl b9 dX9_movePatrols_41 ?_
          refine lv_if_gt (tgt := 50) hx hb dX9_movePatrols_42 (by decide) (fun c10 => ?_) (fun c10 => ?_)
          · replace h := gx_t c10 h
            exact hj50_3 u8 _ _ _ h hP hD hS (lv_sub hl [0, 1] rfl)
          · replace h := gx_f c10 h
            refine lv_aload_n hx hb dX9_movePatrols_45 rfl (lv_at hl 0 rfl) ?_
            refine lv_iload_n hx hb dX9_movePatrols_46 rfl (lv_at hl 1 rfl) ?_
            obtain ⟨y11, hc12, h⟩ := gx_bind h
            refine cc_vV (As := [.int x1_2]) (rest := []) ⟨hx, hb, hml, hown, hts⟩ (k_X9_endWorkOf l D cI cZ ad u8 x1_2 hc12) (cwV 1 hts (gwV mw_498 mw_500 mw_5 mw_48 mw_501) rfl rfl rfl (by decide +kernel) ⟨Nat.le_of_ble_eq_true rfl, Nat.le_of_ble_eq_true rfl⟩) hK hP hD hS hA hZ (ci := 9) (q0 := 0) rfl rfl rfl hl.1 rfl (Nat.le_of_ble_eq_true rfl) dX9_movePatrols_47 ⟨Nat.zero_le _, Nat.zero_le _⟩ (fun H locs hP hD hS => ?_)
            exact hj50_3 y11 _ _ _ h hP hD hS (lv_sub hl [0, 1] rfl)
  refine hL2 _ (fun w2 H locs ls h hP hD hS hl => ?_) FU (0 : Int32) u _ _ _ h hP hD hS (lv_sub hl [1, 0] rfl)
  cases h
  exact cc_vret hx hb hr hQ hK hP hD hS dX9_movePatrols_56 hlocks

def rX9_setLaneSigns : Room := { frames := 4, cells := 0, slots := 0, locals := 94 }
set_option maxHeartbeats 4000000 in
set_option maxRecDepth 100000 in
theorem k_X9_setLaneSigns (l : Launch) (D : va_G) (cI cZ : ClassId) (ad : Nat → Nat) (u : GS) {w' : GS} (h : g_X9_setLaneSigns u = some w') : MV l yX9_setLaneSigns (wm yX9_setLaneSigns cX9_setLaneSigns 1 none) rX9_setLaneSigns D [(cI, .int), (cZ, .boolean)] (wC cI cZ ad u) (wC cI cZ ad w') [.ref (ad 0)] := by
  intro sz
  refine Met.ofW (cc := cX9_setLaneSigns) (maxL := 1) (ret := none) (by decide) rfl ?_
  intro p e s m args below meth c s₁ B hml hv
  obtain ⟨rfl, hsz, hP, hK, hD0, hZ⟩ := hv
  have hx := B.exec
  have hb := B.bytes
  have hr := B.returns
  have hts : ∀ w ∈ Wall, w.before _ s = true := fun w hw => atoms_spec (ws := wm yX9_setLaneSigns cX9_setLaneSigns 1 none) B.pre w (List.mem_cons_of_mem _ hw)
  have hown : s.vm.findClass RX9 = some m.cls := findClass_of_methodNamed B.named
  have hlocks := B.notSynchronized
  subst hsz
  have hD := hD0.self (sz := s.heap.size)
  generalize hAe : va_A (wC cI cZ ad u) s.heap.size = A at hD hZ ⊢
  have hA : ∀ q : Nat, s.heap.size ≤ q → A q := fun q h => by rw [← hAe]; exact Or.inr h
  have hS : va_S A s.heap s.heap [] := va_S.rf
  have hf37 := hts _ mw_308
  have hf7 := hts _ mw_304
  have hf44 := hts _ mw_309
  have hf51 := hts _ mw_310
  have hf65 := hts _ mw_312
  have hl := lv_entry ([.ref (ad 0)]) (n := 1) (Nat.le_of_ble_eq_true rfl)
  rw [lg_entry_eq]
  generalize (lg_sl ([.ref (ad 0)]) ++ List.replicate (1 - (lg_sl ([.ref (ad 0)])).length) Slot.unset).toArray = ls at hl ⊢
  replace hl : lv_has ls 1 [(0, .ref (ad 0))] := hl
  refine w_gen (fun Q hQ => ?_)
  refine lv_aload_n hx hb dX9_setLaneSigns_0 rfl (lv_at hl 0 rfl) ?_
  refine va_get (D := D) (ci := 9) (v := .ref (ad 4)) (C := RX9) (T := TX9) (N := 10) hx hb hts iX9 hown hK hP 0 rfl rfl 4 (by decide) hf37 (fun _ h9 => h9) rfl dX9_setLaneSigns_1 ?_
  refine lv_aload_n hx hb dX9_setLaneSigns_4 rfl (lv_at hl 0 rfl) ?_
  refine va_get (D := D) (ci := 9) (v := .int (c_minute u)) (C := RX9) (T := TX9) (N := 10) hx hb hts iX9 hown hK hP 0 rfl rfl 0 (by decide) hf7 (fun _ h9 => h9) rfl dX9_setLaneSigns_5 ?_
  refine lv_aload_n hx hb dX9_setLaneSigns_8 rfl (lv_at hl 0 rfl) ?_
  refine va_get (D := D) (ci := 9) (v := .ref (ad 5)) (C := RX9) (T := TX9) (N := 10) hx hb hts iX9 hown hK hP 0 rfl rfl 5 (by decide) hf44 (fun _ h9 => h9) rfl dX9_setLaneSigns_9 ?_
  refine lv_aload_n hx hb dX9_setLaneSigns_12 rfl (lv_at hl 0 rfl) ?_
  refine va_get (D := D) (ci := 9) (v := .ref (ad 6)) (C := RX9) (T := TX9) (N := 10) hx hb hts iX9 hown hK hP 0 rfl rfl 6 (by decide) hf51 (fun _ h9 => h9) rfl dX9_setLaneSigns_13 ?_
  refine lv_aload_n hx hb dX9_setLaneSigns_16 rfl (lv_at hl 0 rfl) ?_
  refine va_get (D := D) (ci := 9) (v := .ref (ad 8)) (C := RX9) (T := TX9) (N := 10) hx hb hts iX9 hown hK hP 0 rfl rfl 8 (by decide) hf65 (fun _ h9 => h9) rfl dX9_setLaneSigns_17 ?_
  obtain ⟨y1, hc2, h⟩ := gx_bind h
  refine cc_vV (As := [.int (c_minute u), .ref (ad 5), .ref (ad 6), .ref (ad 8)]) (rest := []) ⟨hx, hb, hml, hown, hts⟩ (k_X3_setAnew l D cI cZ ad u (c_minute u) hc2) (cwV 4 hts (gwV mw_257 mw_258 mw_259 mw_52 mw_260) rfl rfl rfl (by decide +kernel) ⟨Nat.le_of_ble_eq_true rfl, Nat.le_of_ble_eq_true rfl⟩) hK hP hD hS hA hZ (ci := 3) (q0 := 4) rfl rfl rfl hl.1 rfl (Nat.le_of_ble_eq_true rfl) dX9_setLaneSigns_20 ⟨Nat.zero_le _, Nat.zero_le _⟩ (fun H locs hP hD hS => ?_)
  cases h
  exact cc_vret hx hb hr hQ hK hP hD hS dX9_setLaneSigns_23 hlocks

def rX9_comeToNextMinute : Room := { frames := 5, cells := 0, slots := 0, locals := 120 }
set_option maxHeartbeats 4000000 in
set_option maxRecDepth 100000 in
theorem k_X9_comeToNextMinute (l : Launch) (D : va_G) (cI cZ : ClassId) (ad : Nat → Nat) (u : GS) {w' : GS} (h : g_X9_comeToNextMinute u = some w') : MV l yX9_comeToNextMinute (wm yX9_comeToNextMinute cX9_comeToNextMinute 1 none) rX9_comeToNextMinute D [(cI, .int), (cZ, .boolean)] (wC cI cZ ad u) (wC cI cZ ad w') [.ref (ad 0)] := by
  intro sz
  refine Met.ofW (cc := cX9_comeToNextMinute) (maxL := 1) (ret := none) (by decide) rfl ?_
  intro p e s m args below meth c s₁ B hml hv
  obtain ⟨rfl, hsz, hP, hK, hD0, hZ⟩ := hv
  have hx := B.exec
  have hb := B.bytes
  have hr := B.returns
  have hts : ∀ w ∈ Wall, w.before _ s = true := fun w hw => atoms_spec (ws := wm yX9_comeToNextMinute cX9_comeToNextMinute 1 none) B.pre w (List.mem_cons_of_mem _ hw)
  have hown : s.vm.findClass RX9 = some m.cls := findClass_of_methodNamed B.named
  have hlocks := B.notSynchronized
  subst hsz
  have hD := hD0.self (sz := s.heap.size)
  generalize hAe : va_A (wC cI cZ ad u) s.heap.size = A at hD hZ ⊢
  have hA : ∀ q : Nat, s.heap.size ≤ q → A q := fun q h => by rw [← hAe]; exact Or.inr h
  have hS : va_S A s.heap s.heap [] := va_S.rf
  have hf7 := hts _ mw_304
  have hf16 := hts _ mw_305
  have hf37 := hts _ mw_308
  have hf84 := hts _ mw_158
  have hf30 := hts _ mw_307
  have hf23 := hts _ mw_306
  have hf72 := hts _ mw_313
  have hf80 := hts _ mw_135
  have hl := lv_entry ([.ref (ad 0)]) (n := 1) (Nat.le_of_ble_eq_true rfl)
  rw [lg_entry_eq]
  generalize (lg_sl ([.ref (ad 0)]) ++ List.replicate (1 - (lg_sl ([.ref (ad 0)])).length) Slot.unset).toArray = ls at hl ⊢
  replace hl : lv_has ls 1 [(0, .ref (ad 0))] := hl
  refine w_gen (fun Q hQ => ?_)
  refine lv_aload_n hx hb dX9_comeToNextMinute_0 rfl (lv_at hl 0 rfl) ?_
  refine lv_dup hx hb dX9_comeToNextMinute_1 rfl ?_
  refine va_get (D := D) (ci := 9) (v := .int (c_minute u)) (C := RX9) (T := TX9) (N := 10) hx hb hts iX9 hown hK hP 0 rfl rfl 0 (by decide) hf7 (fun _ h9 => h9) rfl dX9_comeToNextMinute_2 ?_
  refine lv_iconst (v := 1) hx hb dX9_comeToNextMinute_5 (by decide) ?_
  refine lv_iadd hx hb dX9_comeToNextMinute_6 ?_
  refine va_put (D := D) (ci := 9) (v := .int ((c_minute u) + (1 : Int32))) (ty := .int) (C := RX9) (T := TX9) (N := 10) hx hb hts iX9 tyX9 tyX9_ok nmX9 hown hK hP hD hS 0 rfl rfl 0 (by decide) hf7 (fun _ h9 => h9) rfl (by decide +kernel) rfl rfl (Nat.le_of_ble_eq_true rfl) dX9_comeToNextMinute_7 (fun H locs hP hD hS => ?_)
  obtain ⟨u1, eu1, h⟩ := gx_let h
  replace hP : va_P D vwCl (wC cI cZ ad u1) H := by rw [← eu1]; exact hP
  replace hD : va_D A (wC cI cZ ad u1) := by rw [← eu1]; exact hD
  refine lv_aload_n hx hb dX9_comeToNextMinute_10 rfl (lv_at hl 0 rfl) ?_
  obtain ⟨y2, hc3, h⟩ := gx_bind h
  refine cc_vV (As := []) (rest := []) ⟨hx, hb, hml, hown, hts⟩ (k_X9_movePatrols l D cI cZ ad u1 hc3) (cwV 0 hts (gwV mw_494 mw_496 mw_4 mw_48 mw_497) rfl rfl rfl (by decide +kernel) ⟨Nat.le_of_ble_eq_true rfl, Nat.le_of_ble_eq_true rfl⟩) hK hP hD hS hA hZ (ci := 9) (q0 := 0) rfl rfl rfl hl.1 rfl (Nat.le_of_ble_eq_true rfl) dX9_comeToNextMinute_11 ⟨Nat.zero_le _, Nat.zero_le _⟩ (fun H locs hP hD hS => ?_)
  refine lv_aload_n hx hb dX9_comeToNextMinute_14 rfl (lv_at hl 0 rfl) ?_
  obtain ⟨y4, hc5, h⟩ := gx_bind h
  refine cc_vV (As := []) (rest := []) ⟨hx, hb, hml, hown, hts⟩ (k_X9_setLaneSigns l D cI cZ ad y2 hc5) (cwV 0 hts (gwV mw_339 mw_341 mw_1 mw_48 mw_342) rfl rfl rfl (by decide +kernel) ⟨Nat.le_of_ble_eq_true rfl, Nat.le_of_ble_eq_true rfl⟩) hK hP hD hS hA hZ (ci := 9) (q0 := 0) rfl rfl rfl hl.1 rfl (Nat.le_of_ble_eq_true rfl) dX9_comeToNextMinute_15 ⟨Nat.zero_le _, Nat.zero_le _⟩ (fun H locs hP hD hS => ?_)
  refine lv_aload_n hx hb dX9_comeToNextMinute_18 rfl (lv_at hl 0 rfl) ?_
  refine va_get (D := D) (ci := 9) (v := .ref (ad 1)) (C := RX9) (T := TX9) (N := 10) hx hb hts iX9 hown hK hP 0 rfl rfl 1 (by decide) hf16 (fun _ h9 => h9) rfl dX9_comeToNextMinute_19 ?_
  refine lv_aload_n hx hb dX9_comeToNextMinute_22 rfl (lv_at hl 0 rfl) ?_
  refine va_get (D := D) (ci := 9) (v := .ref (ad 4)) (C := RX9) (T := TX9) (N := 10) hx hb hts iX9 hown hK hP 0 rfl rfl 4 (by decide) hf37 (fun _ h9 => h9) rfl dX9_comeToNextMinute_23 ?_
  refine va_get (D := D) (ci := 3) (v := .ref (ad 20)) (C := RX3) (T := TX3) (N := 3) hx hb hts iX3 hown hK hP 4 rfl rfl 2 (by decide) hf84 (fun _ h9 => h9) rfl dX9_comeToNextMinute_26 ?_
  obtain ⟨y6, hc7, h⟩ := gx_bind h
  refine cc_vV (As := [.ref (ad 20)]) (rest := []) ⟨hx, hb, hml, hown, hts⟩ (k_X8_goOn l D cI cZ ad y4 hc7) (cwV 1 hts (gwV mw_516 mw_517 mw_518 mw_49 mw_519) rfl rfl rfl (by decide +kernel) ⟨Nat.le_of_ble_eq_true rfl, Nat.le_of_ble_eq_true rfl⟩) hK hP hD hS hA hZ (ci := 8) (q0 := 1) rfl rfl rfl hl.1 rfl (Nat.le_of_ble_eq_true rfl) dX9_comeToNextMinute_29 ⟨Nat.zero_le _, Nat.zero_le _⟩ (fun H locs hP hD hS => ?_)
  refine lv_aload_n hx hb dX9_comeToNextMinute_32 rfl (lv_at hl 0 rfl) ?_
  refine va_get (D := D) (ci := 9) (v := .ref (ad 1)) (C := RX9) (T := TX9) (N := 10) hx hb hts iX9 hown hK hP 0 rfl rfl 1 (by decide) hf16 (fun _ h9 => h9) rfl dX9_comeToNextMinute_33 ?_
  refine lv_aload_n hx hb dX9_comeToNextMinute_36 rfl (lv_at hl 0 rfl) ?_
  refine va_get (D := D) (ci := 9) (v := .ref (ad 4)) (C := RX9) (T := TX9) (N := 10) hx hb hts iX9 hown hK hP 0 rfl rfl 4 (by decide) hf37 (fun _ h9 => h9) rfl dX9_comeToNextMinute_37 ?_
  refine va_get (D := D) (ci := 3) (v := .ref (ad 20)) (C := RX3) (T := TX3) (N := 3) hx hb hts iX3 hown hK hP 4 rfl rfl 2 (by decide) hf84 (fun _ h9 => h9) rfl dX9_comeToNextMinute_40 ?_
  obtain ⟨y8, hc9, h⟩ := gx_bind h
  refine cc_vV (As := [.ref (ad 20)]) (rest := []) ⟨hx, hb, hml, hown, hts⟩ (k_X8_arrive l D cI cZ ad y6 hc9) (cwV 1 hts (gwV mw_552 mw_553 mw_554 mw_49 mw_555) rfl rfl rfl (by decide +kernel) ⟨Nat.le_of_ble_eq_true rfl, Nat.le_of_ble_eq_true rfl⟩) hK hP hD hS hA hZ (ci := 8) (q0 := 1) rfl rfl rfl hl.1 rfl (Nat.le_of_ble_eq_true rfl) dX9_comeToNextMinute_43 ⟨Nat.zero_le _, Nat.zero_le _⟩ (fun H locs hP hD hS => ?_)
  refine lv_aload_n hx hb dX9_comeToNextMinute_46 rfl (lv_at hl 0 rfl) ?_
  refine va_get (D := D) (ci := 9) (v := .ref (ad 1)) (C := RX9) (T := TX9) (N := 10) hx hb hts iX9 hown hK hP 0 rfl rfl 1 (by decide) hf16 (fun _ h9 => h9) rfl dX9_comeToNextMinute_47 ?_
  obtain ⟨y10, hc11, h⟩ := gx_bind h
  refine cc_vV (As := []) (rest := []) ⟨hx, hb, hml, hown, hts⟩ (k_X8_judgeBroken l D cI cZ ad y8 hc11) (cwV 0 hts (gwV mw_560 mw_561 mw_562 mw_49 mw_563) rfl rfl rfl (by decide +kernel) ⟨Nat.le_of_ble_eq_true rfl, Nat.le_of_ble_eq_true rfl⟩) hK hP hD hS hA hZ (ci := 8) (q0 := 1) rfl rfl rfl hl.1 rfl (Nat.le_of_ble_eq_true rfl) dX9_comeToNextMinute_50 ⟨Nat.zero_le _, Nat.zero_le _⟩ (fun H locs hP hD hS => ?_)
  refine lv_aload_n hx hb dX9_comeToNextMinute_53 rfl (lv_at hl 0 rfl) ?_
  refine va_get (D := D) (ci := 9) (v := .ref (ad 3)) (C := RX9) (T := TX9) (N := 10) hx hb hts iX9 hown hK hP 0 rfl rfl 3 (by decide) hf30 (fun _ h9 => h9) rfl dX9_comeToNextMinute_54 ?_
  refine lv_aload_n hx hb dX9_comeToNextMinute_57 rfl (lv_at hl 0 rfl) ?_
  refine va_get (D := D) (ci := 9) (v := .int (c_minute y10)) (C := RX9) (T := TX9) (N := 10) hx hb hts iX9 hown hK hP 0 rfl rfl 0 (by decide) hf7 (fun _ h9 => h9) rfl dX9_comeToNextMinute_58 ?_
  refine lv_aload_n hx hb dX9_comeToNextMinute_61 rfl (lv_at hl 0 rfl) ?_
  refine va_get (D := D) (ci := 9) (v := .ref (ad 2)) (C := RX9) (T := TX9) (N := 10) hx hb hts iX9 hown hK hP 0 rfl rfl 2 (by decide) hf23 (fun _ h9 => h9) rfl dX9_comeToNextMinute_62 ?_
  refine lv_aload_n hx hb dX9_comeToNextMinute_65 rfl (lv_at hl 0 rfl) ?_
  refine va_get (D := D) (ci := 9) (v := .ref (ad 1)) (C := RX9) (T := TX9) (N := 10) hx hb hts iX9 hown hK hP 0 rfl rfl 1 (by decide) hf16 (fun _ h9 => h9) rfl dX9_comeToNextMinute_66 ?_
  obtain ⟨y12, hc13, h⟩ := gx_bind h
  refine cc_vV (As := [.int (c_minute y10), .ref (ad 2), .ref (ad 1)]) (rest := []) ⟨hx, hb, hml, hown, hts⟩ (k_X7_setAnew l D cI cZ ad y10 (c_minute y10) hc13) (cwV 3 hts (gwV mw_564 mw_565 mw_566 mw_51 mw_567) rfl rfl rfl (by decide +kernel) ⟨Nat.le_of_ble_eq_true rfl, Nat.le_of_ble_eq_true rfl⟩) hK hP hD hS hA hZ (ci := 7) (q0 := 3) rfl rfl rfl hl.1 rfl (Nat.le_of_ble_eq_true rfl) dX9_comeToNextMinute_69 ⟨Nat.zero_le _, Nat.zero_le _⟩ (fun H locs hP hD hS => ?_)
  refine lv_aload_n hx hb dX9_comeToNextMinute_72 rfl (lv_at hl 0 rfl) ?_
  refine va_get (D := D) (ci := 9) (v := .ref (ad 9)) (C := RX9) (T := TX9) (N := 10) hx hb hts iX9 hown hK hP 0 rfl rfl 9 (by decide) hf72 (fun _ h9 => h9) rfl dX9_comeToNextMinute_73 ?_
  refine lv_aload_n hx hb dX9_comeToNextMinute_76 rfl (lv_at hl 0 rfl) ?_
  refine va_get (D := D) (ci := 9) (v := .int (c_minute y12)) (C := RX9) (T := TX9) (N := 10) hx hb hts iX9 hown hK hP 0 rfl rfl 0 (by decide) hf7 (fun _ h9 => h9) rfl dX9_comeToNextMinute_77 ?_
  refine lv_aload_n hx hb dX9_comeToNextMinute_80 rfl (lv_at hl 0 rfl) ?_
  refine va_get (D := D) (ci := 9) (v := .ref (ad 3)) (C := RX9) (T := TX9) (N := 10) hx hb hts iX9 hown hK hP 0 rfl rfl 3 (by decide) hf30 (fun _ h9 => h9) rfl dX9_comeToNextMinute_81 ?_
  refine va_get (D := D) (ci := 7) (v := .ref (ad 16)) (C := RX7) (T := TX7) (N := 4) hx hb hts iX7 hown hK hP 3 rfl rfl 1 (by decide) hf80 (fun _ h9 => h9) rfl dX9_comeToNextMinute_84 ?_
  refine lv_aload_n hx hb dX9_comeToNextMinute_87 rfl (lv_at hl 0 rfl) ?_
  refine va_get (D := D) (ci := 9) (v := .ref (ad 4)) (C := RX9) (T := TX9) (N := 10) hx hb hts iX9 hown hK hP 0 rfl rfl 4 (by decide) hf37 (fun _ h9 => h9) rfl dX9_comeToNextMinute_88 ?_
  refine va_get (D := D) (ci := 3) (v := .ref (ad 20)) (C := RX3) (T := TX3) (N := 3) hx hb hts iX3 hown hK hP 4 rfl rfl 2 (by decide) hf84 (fun _ h9 => h9) rfl dX9_comeToNextMinute_91 ?_
  obtain ⟨y14, hc15, h⟩ := gx_bind h
  refine cc_vV (As := [.int (c_minute y12), .ref (ad 16), .ref (ad 20)]) (rest := []) ⟨hx, hb, hml, hown, hts⟩ (k_X5_keep l D cI cZ ad y12 (c_minute y12) hc15) (cwV 3 hts (gwV mw_293 mw_294 mw_295 mw_57 mw_296) rfl rfl rfl (by decide +kernel) ⟨Nat.le_of_ble_eq_true rfl, Nat.le_of_ble_eq_true rfl⟩) hK hP hD hS hA hZ (ci := 5) (q0 := 9) rfl rfl rfl hl.1 rfl (Nat.le_of_ble_eq_true rfl) dX9_comeToNextMinute_94 ⟨Nat.zero_le _, Nat.zero_le _⟩ (fun H locs hP hD hS => ?_)
  cases h
  exact cc_vret hx hb hr hQ hK hP hD hS dX9_comeToNextMinute_97 hlocks
