def rX10_thrown : Room := { frames := 0, cells := 0, slots := 0, locals := 0 }
set_option maxHeartbeats 4000000 in
set_option maxRecDepth 100000 in
theorem k_X10_thrown (l : Launch) (D : va_G) (cI cZ : ClassId) (ad : Nat → Nat) (u : MS) {r : Int32} (h : g_X10_thrown u = some r) : MI l yX10_thrown (wm yX10_thrown cX10_thrown 1 (some .int)) rX10_thrown D [(cI, .int), (cZ, .boolean)] (wM cI cZ ad u) (wM cI cZ ad u) [.ref (ad 0)] r := by
  intro sz
  refine Met.ofW (cc := cX10_thrown) (maxL := 1) (ret := (some .int)) (by decide) rfl ?_
  intro p e s m args below meth c s₁ B hml hv
  obtain ⟨rfl, hsz, hP, hK, hD0, hZ⟩ := hv
  have hx := B.exec
  have hb := B.bytes
  have hr := B.returns
  have hts : ∀ w ∈ Wall, w.before _ s = true := fun w hw => atoms_spec (ws := wm yX10_thrown cX10_thrown 1 (some .int)) B.pre w (List.mem_cons_of_mem _ hw)
  have hown : s.vm.findClass RX10 = some m.cls := findClass_of_methodNamed B.named
  have hlocks := B.notSynchronized
  subst hsz
  have hD := hD0.self (sz := s.heap.size)
  generalize hAe : va_A (wM cI cZ ad u) s.heap.size = A at hD hZ ⊢
  have hA : ∀ q : Nat, s.heap.size ≤ q → A q := fun q h => by rw [← hAe]; exact Or.inr h
  have hS : va_S A s.heap s.heap [] := va_S.rf
  have hf83 := hts _ mw_871
  have hl := lv_entry ([.ref (ad 0)]) (n := 1) (Nat.le_of_ble_eq_true rfl)
  rw [lg_entry_eq]
  generalize (lg_sl ([.ref (ad 0)]) ++ List.replicate (1 - (lg_sl ([.ref (ad 0)])).length) Slot.unset).toArray = ls at hl ⊢
  replace hl : lv_has ls 1 [(0, .ref (ad 0))] := hl
  refine w_gen (fun Q hQ => ?_)
  refine lv_aload_n hx hb dX10_thrown_0 rfl (lv_at hl 0 rfl) ?_
  refine va_get (D := D) (ci := 10) (v := .int (m_thrown u)) (C := RX10) (T := TX10) (N := 32) hx hb hts iX10 hown hK hP 0 rfl rfl 0 (by decide) hf83 (fun _ h9 => h9) rfl dX10_thrown_1 ?_
  cases h
  exact cc_ret hx hb hr rfl hQ hK hP hD hS rfl dX10_thrown_4 hlocks

def rX10_holds : Room := { frames := 0, cells := 0, slots := 0, locals := 0 }
set_option maxHeartbeats 4000000 in
set_option maxRecDepth 100000 in
theorem k_X10_holds (l : Launch) (D : va_G) (cI cZ : ClassId) (ad : Nat → Nat) (u : MS) (p0 : Int32) {r : Int32} {w' : MS} (h : g_X10_holds u p0 = some (r, w')) : MI l yX10_holds (wm yX10_holds cX10_holds 2 (some .boolean)) rX10_holds D [(cI, .int), (cZ, .boolean)] (wM cI cZ ad u) (wM cI cZ ad w') [.ref (ad 0), .int p0] r := by
  intro sz
  refine Met.ofW (cc := cX10_holds) (maxL := 2) (ret := (some .boolean)) (by decide) rfl ?_
  intro p e s m args below meth c s₁ B hml hv
  obtain ⟨rfl, hsz, hP, hK, hD0, hZ⟩ := hv
  have hx := B.exec
  have hb := B.bytes
  have hr := B.returns
  have hts : ∀ w ∈ Wall, w.before _ s = true := fun w hw => atoms_spec (ws := wm yX10_holds cX10_holds 2 (some .boolean)) B.pre w (List.mem_cons_of_mem _ hw)
  have hown : s.vm.findClass RX10 = some m.cls := findClass_of_methodNamed B.named
  have hlocks := B.notSynchronized
  subst hsz
  have hD := hD0.self (sz := s.heap.size)
  generalize hAe : va_A (wM cI cZ ad u) s.heap.size = A at hD hZ ⊢
  have hA : ∀ q : Nat, s.heap.size ≤ q → A q := fun q h => by rw [← hAe]; exact Or.inr h
  have hS : va_S A s.heap s.heap [] := va_S.rf
  have hf83 := hts _ mw_871
  have hl := lv_entry ([.ref (ad 0), .int p0]) (n := 2) (Nat.le_of_ble_eq_true rfl)
  rw [lg_entry_eq]
  generalize (lg_sl ([.ref (ad 0), .int p0]) ++ List.replicate (2 - (lg_sl ([.ref (ad 0), .int p0])).length) Slot.unset).toArray = ls at hl ⊢
  replace hl : lv_has ls 2 [(0, .ref (ad 0)), (1, .int p0)] := hl
  refine w_gen (fun Q hQ => ?_)
  refine lv_aload_n hx hb dX10_holds_0 rfl (lv_at hl 0 rfl) ?_
  refine lv_iload_n hx hb dX10_holds_1 rfl (lv_at hl 1 rfl) ?_
  refine va_put (D := D) (ci := 10) (v := .int p0) (ty := .int) (C := RX10) (T := TX10) (N := 32) hx hb hts iX10 tyX10 tyX10_ok nmX10 hown hK hP hD hS 0 rfl rfl 0 (by decide) hf83 (fun _ h9 => h9) rfl (by decide +kernel) rfl rfl (Nat.le_of_ble_eq_true rfl) dX10_holds_2 (fun H locs hP hD hS => ?_)
  obtain ⟨u1, eu1, h⟩ := gx_let h
  replace hP : va_P D vwCl (wM cI cZ ad u1) H := by rw [← eu1]; exact hP
  replace hD : va_D A (wM cI cZ ad u1) := by rw [← eu1]; exact hD
  refine lv_iload_n hx hb dX10_holds_5 rfl (lv_at hl 1 rfl) ?_
  refine lv_if_ne (tgt := 13) hx hb dX10_holds_6 (by decide) (fun c2 => ?_) (fun c2 => ?_)
  · replace h := gx_f c2 h
    refine lv_iconst (v := 0) hx hb dX10_holds_13 (by decide) ?_
    cases h
    exact cc_ret hx hb hr rfl hQ hK hP hD hS rfl dX10_holds_14 hlocks
  · replace h := gx_t c2 h
    refine lv_iconst (v := 1) hx hb dX10_holds_9 (by decide) ?_
    refine lv_goto (tgt := 14) hx hb dX10_holds_10 (by decide) ?_
    cases h
    exact cc_ret hx hb hr rfl hQ hK hP hD hS rfl dX10_holds_14 hlocks

def rX10_isIn : Room := { frames := 0, cells := 0, slots := 0, locals := 0 }
set_option maxHeartbeats 4000000 in
set_option maxRecDepth 100000 in
theorem k_X10_isIn (l : Launch) (D : va_G) (cI cZ : ClassId) (ad : Nat → Nat) (u : MS) (p0 : Int32) (p1 : Int32) (p2 : Int32) {r : Int32} (h : g_X10_isIn p0 p1 p2 = some r) : MI l yX10_isIn (wm yX10_isIn cX10_isIn 3 (some .boolean)) rX10_isIn D [(cI, .int), (cZ, .boolean)] (wM cI cZ ad u) (wM cI cZ ad u) [.int p0, .int p1, .int p2] r := by
  intro sz
  refine Met.ofW (cc := cX10_isIn) (maxL := 3) (ret := (some .boolean)) (by decide) rfl ?_
  intro p e s m args below meth c s₁ B hml hv
  obtain ⟨rfl, hsz, hP, hK, hD0, hZ⟩ := hv
  have hx := B.exec
  have hb := B.bytes
  have hr := B.returns
  have hts : ∀ w ∈ Wall, w.before _ s = true := fun w hw => atoms_spec (ws := wm yX10_isIn cX10_isIn 3 (some .boolean)) B.pre w (List.mem_cons_of_mem _ hw)
  have hown : s.vm.findClass RX10 = some m.cls := findClass_of_methodNamed B.named
  have hlocks := B.notSynchronized
  subst hsz
  have hD := hD0.self (sz := s.heap.size)
  generalize hAe : va_A (wM cI cZ ad u) s.heap.size = A at hD hZ ⊢
  have hA : ∀ q : Nat, s.heap.size ≤ q → A q := fun q h => by rw [← hAe]; exact Or.inr h
  have hS : va_S A s.heap s.heap [] := va_S.rf
  have hl := lv_entry ([.int p0, .int p1, .int p2]) (n := 3) (Nat.le_of_ble_eq_true rfl)
  rw [lg_entry_eq]
  generalize (lg_sl ([.int p0, .int p1, .int p2]) ++ List.replicate (3 - (lg_sl ([.int p0, .int p1, .int p2])).length) Slot.unset).toArray = ls at hl ⊢
  replace hl : lv_has ls 3 [(0, .int p0), (1, .int p1), (2, .int p2)] := hl
  refine w_gen (fun Q hQ => ?_)
  refine lv_iload_n hx hb dX10_isIn_0 rfl (lv_at hl 0 rfl) ?_
  refine lv_iload_n hx hb dX10_isIn_1 rfl (lv_at hl 1 rfl) ?_
  refine lv_icmp_lt (tgt := 14) hx hb dX10_isIn_2 (by decide) (fun c1 => ?_) (fun c1 => ?_)
  · replace h := gx_t c1 h
    refine lv_iconst (v := 0) hx hb dX10_isIn_14 (by decide) ?_
    cases h
    exact cc_ret hx hb hr rfl hQ hK hP hD hS rfl dX10_isIn_15 hlocks
  · replace h := gx_f c1 h
    refine lv_iload_n hx hb dX10_isIn_5 rfl (lv_at hl 0 rfl) ?_
    refine lv_iload_n hx hb dX10_isIn_6 rfl (lv_at hl 2 rfl) ?_
    refine lv_icmp_gt (tgt := 14) hx hb dX10_isIn_7 (by decide) (fun c2 => ?_) (fun c2 => ?_)
    · replace h := gx_t c2 h
      refine lv_iconst (v := 0) hx hb dX10_isIn_14 (by decide) ?_
      cases h
      exact cc_ret hx hb hr rfl hQ hK hP hD hS rfl dX10_isIn_15 hlocks
    · replace h := gx_f c2 h
      refine lv_iconst (v := 1) hx hb dX10_isIn_10 (by decide) ?_
      refine lv_goto (tgt := 15) hx hb dX10_isIn_11 (by decide) ?_
      cases h
      exact cc_ret hx hb hr rfl hQ hK hP hD hS rfl dX10_isIn_15 hlocks

def rX10_isSection : Room := { frames := 1, cells := 0, slots := 0, locals := 22 }
set_option maxHeartbeats 4000000 in
set_option maxRecDepth 100000 in
theorem k_X10_isSection (l : Launch) (D : va_G) (cI cZ : ClassId) (ad : Nat → Nat) (u : MS) (p0 : Int32) {r : Int32} (h : g_X10_isSection p0 = some r) : MI l yX10_isSection (wm yX10_isSection cX10_isSection 1 (some .boolean)) rX10_isSection D [(cI, .int), (cZ, .boolean)] (wM cI cZ ad u) (wM cI cZ ad u) [.int p0] r := by
  intro sz
  refine Met.ofW (cc := cX10_isSection) (maxL := 1) (ret := (some .boolean)) (by decide) rfl ?_
  intro p e s m args below meth c s₁ B hml hv
  obtain ⟨rfl, hsz, hP, hK, hD0, hZ⟩ := hv
  have hx := B.exec
  have hb := B.bytes
  have hr := B.returns
  have hts : ∀ w ∈ Wall, w.before _ s = true := fun w hw => atoms_spec (ws := wm yX10_isSection cX10_isSection 1 (some .boolean)) B.pre w (List.mem_cons_of_mem _ hw)
  have hown : s.vm.findClass RX10 = some m.cls := findClass_of_methodNamed B.named
  have hlocks := B.notSynchronized
  subst hsz
  have hD := hD0.self (sz := s.heap.size)
  generalize hAe : va_A (wM cI cZ ad u) s.heap.size = A at hD hZ ⊢
  have hA : ∀ q : Nat, s.heap.size ≤ q → A q := fun q h => by rw [← hAe]; exact Or.inr h
  have hS : va_S A s.heap s.heap [] := va_S.rf
  have hl := lv_entry ([.int p0]) (n := 1) (Nat.le_of_ble_eq_true rfl)
  rw [lg_entry_eq]
  generalize (lg_sl ([.int p0]) ++ List.replicate (1 - (lg_sl ([.int p0])).length) Slot.unset).toArray = ls at hl ⊢
  replace hl : lv_has ls 1 [(0, .int p0)] := hl
  refine w_gen (fun Q hQ => ?_)
  refine lv_iload_n hx hb dX10_isSection_0 rfl (lv_at hl 0 rfl) ?_
  refine lv_iconst (v := 0) hx hb dX10_isSection_1 (by decide) ?_
  refine lv_bipush (v := 11) hx hb dX10_isSection_2 (by decide) ?_
  obtain ⟨y1, hc2, h⟩ := gx_bind h
  refine cc_iS (As := [.int p0, .int (0 : Int32), .int (11 : Int32)]) (rest := []) ⟨hx, hb, hml, hown, hts⟩ (k_X10_isIn l D cI cZ ad u p0 (0 : Int32) (11 : Int32) hc2) (va_cwS 3 hts (gwS mw_860 mw_861 mw_59 mw_862) rfl rfl rfl (by decide +kernel) ⟨Nat.le_of_ble_eq_true rfl, Nat.le_of_ble_eq_true rfl⟩) hK hP hD hS hA hZ rfl hl.1 rfl (Nat.le_of_ble_eq_true rfl) dX10_isSection_4 ⟨Nat.zero_le _, Nat.zero_le _⟩ (fun H locs hP hD hS => ?_)
  obtain ⟨bo, h⟩ := gx_bo h
  cases h
  exact cc_ret hx hb hr bo hQ hK hP hD hS rfl dX10_isSection_7 hlocks

def rX10_isPlace : Room := { frames := 2, cells := 0, slots := 0, locals := 42 }
set_option maxHeartbeats 4000000 in
set_option maxRecDepth 100000 in
theorem k_X10_isPlace (l : Launch) (D : va_G) (cI cZ : ClassId) (ad : Nat → Nat) (u : MS) (p0 : Int32) (p1 : Int32) {r : Int32} (h : g_X10_isPlace p0 p1 = some r) : MI l yX10_isPlace (wm yX10_isPlace cX10_isPlace 2 (some .boolean)) rX10_isPlace D [(cI, .int), (cZ, .boolean)] (wM cI cZ ad u) (wM cI cZ ad u) [.int p0, .int p1] r := by
  intro sz
  refine Met.ofW (cc := cX10_isPlace) (maxL := 2) (ret := (some .boolean)) (by decide) rfl ?_
  intro p e s m args below meth c s₁ B hml hv
  obtain ⟨rfl, hsz, hP, hK, hD0, hZ⟩ := hv
  have hx := B.exec
  have hb := B.bytes
  have hr := B.returns
  have hts : ∀ w ∈ Wall, w.before _ s = true := fun w hw => atoms_spec (ws := wm yX10_isPlace cX10_isPlace 2 (some .boolean)) B.pre w (List.mem_cons_of_mem _ hw)
  have hown : s.vm.findClass RX10 = some m.cls := findClass_of_methodNamed B.named
  have hlocks := B.notSynchronized
  subst hsz
  have hD := hD0.self (sz := s.heap.size)
  generalize hAe : va_A (wM cI cZ ad u) s.heap.size = A at hD hZ ⊢
  have hA : ∀ q : Nat, s.heap.size ≤ q → A q := fun q h => by rw [← hAe]; exact Or.inr h
  have hS : va_S A s.heap s.heap [] := va_S.rf
  have hl := lv_entry ([.int p0, .int p1]) (n := 2) (Nat.le_of_ble_eq_true rfl)
  rw [lg_entry_eq]
  generalize (lg_sl ([.int p0, .int p1]) ++ List.replicate (2 - (lg_sl ([.int p0, .int p1])).length) Slot.unset).toArray = ls at hl ⊢
  replace hl : lv_has ls 2 [(0, .int p0), (1, .int p1)] := hl
  refine w_gen (fun Q hQ => ?_)
  refine lv_iload_n hx hb dX10_isPlace_0 rfl (lv_at hl 0 rfl) ?_
  obtain ⟨y1, hc2, h⟩ := gx_bind h
  refine cc_iS (As := [.int p0]) (rest := []) ⟨hx, hb, hml, hown, hts⟩ (k_X10_isSection l D cI cZ ad u p0 hc2) (va_cwS 1 hts (gwS mw_1039 mw_1040 mw_59 mw_1041) rfl rfl rfl (by decide +kernel) ⟨Nat.le_of_ble_eq_true rfl, Nat.le_of_ble_eq_true rfl⟩) hK hP hD hS hA hZ rfl hl.1 rfl (Nat.le_of_ble_eq_true rfl) dX10_isPlace_1 ⟨Nat.zero_le _, Nat.zero_le _⟩ (fun H locs hP hD hS => ?_)
  refine lv_if_eq (tgt := 20) hx hb dX10_isPlace_4 (by decide) (fun c3 => ?_) (fun c3 => ?_)
  · replace h := gx_t c3 h
    refine lv_iconst (v := 0) hx hb dX10_isPlace_20 (by decide) ?_
    cases h
    exact cc_ret hx hb hr rfl hQ hK hP hD hS rfl dX10_isPlace_21 hlocks
  · replace h := gx_f c3 h
    refine lv_iload_n hx hb dX10_isPlace_7 rfl (lv_at hl 1 rfl) ?_
    refine lv_iconst (v := 0) hx hb dX10_isPlace_8 (by decide) ?_
    refine lv_iconst (v := 3) hx hb dX10_isPlace_9 (by decide) ?_
    obtain ⟨y4, hc5, h⟩ := gx_bind h
    refine cc_iS (As := [.int p1, .int (0 : Int32), .int (3 : Int32)]) (rest := []) ⟨hx, hb, hml, hown, hts⟩ (k_X10_isIn l D cI cZ ad u p1 (0 : Int32) (3 : Int32) hc5) (va_cwS 3 hts (gwS mw_860 mw_861 mw_59 mw_862) rfl rfl rfl (by decide +kernel) ⟨Nat.le_of_ble_eq_true rfl, Nat.le_of_ble_eq_true rfl⟩) hK hP hD hS hA hZ rfl hl.1 rfl (Nat.le_of_ble_eq_true rfl) dX10_isPlace_10 ⟨Nat.zero_le _, Nat.zero_le _⟩ (fun H locs hP hD hS => ?_)
    refine lv_if_eq (tgt := 20) hx hb dX10_isPlace_13 (by decide) (fun c6 => ?_) (fun c6 => ?_)
    · replace h := gx_t c6 h
      refine lv_iconst (v := 0) hx hb dX10_isPlace_20 (by decide) ?_
      cases h
      exact cc_ret hx hb hr rfl hQ hK hP hD hS rfl dX10_isPlace_21 hlocks
    · replace h := gx_f c6 h
      refine lv_iconst (v := 1) hx hb dX10_isPlace_16 (by decide) ?_
      refine lv_goto (tgt := 21) hx hb dX10_isPlace_17 (by decide) ?_
      cases h
      exact cc_ret hx hb hr rfl hQ hK hP hD hS rfl dX10_isPlace_21 hlocks

def rX10_isOnNow : Room := { frames := 0, cells := 0, slots := 0, locals := 0 }
set_option maxHeartbeats 4000000 in
set_option maxRecDepth 100000 in
theorem k_X10_isOnNow (l : Launch) (D : va_G) (cI cZ : ClassId) (ad : Nat → Nat) (u : MS) (p0 : Int32) {r : Int32} (h : g_X10_isOnNow u p0 = some r) : MI l yX10_isOnNow (wm yX10_isOnNow cX10_isOnNow 2 (some .boolean)) rX10_isOnNow D [(cI, .int), (cZ, .boolean)] (wM cI cZ ad u) (wM cI cZ ad u) [.ref (ad 0), .int p0] r := by
  intro sz
  refine Met.ofW (cc := cX10_isOnNow) (maxL := 2) (ret := (some .boolean)) (by decide) rfl ?_
  intro p e s m args below meth c s₁ B hml hv
  obtain ⟨rfl, hsz, hP, hK, hD0, hZ⟩ := hv
  have hx := B.exec
  have hb := B.bytes
  have hr := B.returns
  have hts : ∀ w ∈ Wall, w.before _ s = true := fun w hw => atoms_spec (ws := wm yX10_isOnNow cX10_isOnNow 2 (some .boolean)) B.pre w (List.mem_cons_of_mem _ hw)
  have hown : s.vm.findClass RX10 = some m.cls := findClass_of_methodNamed B.named
  have hlocks := B.notSynchronized
  subst hsz
  have hD := hD0.self (sz := s.heap.size)
  generalize hAe : va_A (wM cI cZ ad u) s.heap.size = A at hD hZ ⊢
  have hA : ∀ q : Nat, s.heap.size ≤ q → A q := fun q h => by rw [← hAe]; exact Or.inr h
  have hS : va_S A s.heap s.heap [] := va_S.rf
  have hf95 := hts _ mw_872
  have hf71 := hts _ mw_900
  have hf74 := hts _ mw_901
  have hl := lv_entry ([.ref (ad 0), .int p0]) (n := 2) (Nat.le_of_ble_eq_true rfl)
  rw [lg_entry_eq]
  generalize (lg_sl ([.ref (ad 0), .int p0]) ++ List.replicate (2 - (lg_sl ([.ref (ad 0), .int p0])).length) Slot.unset).toArray = ls at hl ⊢
  replace hl : lv_has ls 2 [(0, .ref (ad 0)), (1, .int p0)] := hl
  refine w_gen (fun Q hQ => ?_)
  refine lv_aload_n hx hb dX10_isOnNow_0 rfl (lv_at hl 0 rfl) ?_
  refine va_get (D := D) (ci := 10) (v := .int (m_now u)) (C := RX10) (T := TX10) (N := 32) hx hb hts iX10 hown hK hP 0 rfl rfl 1 (by decide) hf95 (fun _ h9 => h9) rfl dX10_isOnNow_1 ?_
  refine lv_aload_n hx hb dX10_isOnNow_4 rfl (lv_at hl 0 rfl) ?_
  refine va_get (D := D) (ci := 10) (v := .ref (ad 21)) (C := RX10) (T := TX10) (N := 32) hx hb hts iX10 hown hK hP 0 rfl rfl 29 (by decide) hf71 (fun _ h9 => h9) rfl dX10_isOnNow_5 ?_
  refine lv_iload_n hx hb dX10_isOnNow_8 rfl (lv_at hl 1 rfl) ?_
  obtain ⟨b1, h⟩ := gx_in h
  refine va_iald (D := D) hx hb hK hP 21 0 rfl rfl b1 dX10_isOnNow_9 ?_
  refine lv_icmp_lt (tgt := 30) hx hb dX10_isOnNow_10 (by decide) (fun c2 => ?_) (fun c2 => ?_)
  · replace h := gx_t c2 h
    refine lv_iconst (v := 0) hx hb dX10_isOnNow_30 (by decide) ?_
    cases h
    exact cc_ret hx hb hr rfl hQ hK hP hD hS rfl dX10_isOnNow_31 hlocks
  · replace h := gx_f c2 h
    refine lv_aload_n hx hb dX10_isOnNow_13 rfl (lv_at hl 0 rfl) ?_
    refine va_get (D := D) (ci := 10) (v := .int (m_now u)) (C := RX10) (T := TX10) (N := 32) hx hb hts iX10 hown hK hP 0 rfl rfl 1 (by decide) hf95 (fun _ h9 => h9) rfl dX10_isOnNow_14 ?_
    refine lv_aload_n hx hb dX10_isOnNow_17 rfl (lv_at hl 0 rfl) ?_
    refine va_get (D := D) (ci := 10) (v := .ref (ad 22)) (C := RX10) (T := TX10) (N := 32) hx hb hts iX10 hown hK hP 0 rfl rfl 30 (by decide) hf74 (fun _ h9 => h9) rfl dX10_isOnNow_18 ?_
    refine lv_iload_n hx hb dX10_isOnNow_21 rfl (lv_at hl 1 rfl) ?_
    obtain ⟨b3, h⟩ := gx_in h
    refine va_iald (D := D) hx hb hK hP 22 0 rfl rfl b3 dX10_isOnNow_22 ?_
    refine lv_icmp_ge (tgt := 30) hx hb dX10_isOnNow_23 (by decide) (fun c4 => ?_) (fun c4 => ?_)
    · replace h := gx_t c4 h
      refine lv_iconst (v := 0) hx hb dX10_isOnNow_30 (by decide) ?_
      cases h
      exact cc_ret hx hb hr rfl hQ hK hP hD hS rfl dX10_isOnNow_31 hlocks
    · replace h := gx_f c4 h
      refine lv_iconst (v := 1) hx hb dX10_isOnNow_26 (by decide) ?_
      refine lv_goto (tgt := 31) hx hb dX10_isOnNow_27 (by decide) ?_
      cases h
      exact cc_ret hx hb hr rfl hQ hK hP hD hS rfl dX10_isOnNow_31 hlocks

def rX10_areWorksAt : Room := { frames := 1, cells := 0, slots := 0, locals := 22 }
set_option maxHeartbeats 4000000 in
set_option maxRecDepth 100000 in
theorem k_X10_areWorksAt (l : Launch) (D : va_G) (cI cZ : ClassId) (ad : Nat → Nat) (u : MS) (p0 : Int32) (p1 : Int32) {r : Int32} (h : g_X10_areWorksAt u p0 p1 = some r) : MI l yX10_areWorksAt (wm yX10_areWorksAt cX10_areWorksAt 5 (some .boolean)) rX10_areWorksAt D [(cI, .int), (cZ, .boolean)] (wM cI cZ ad u) (wM cI cZ ad u) [.ref (ad 0), .int p0, .int p1] r := by
  intro sz
  refine Met.ofW (cc := cX10_areWorksAt) (maxL := 5) (ret := (some .boolean)) (by decide) rfl ?_
  intro p e s m args below meth c s₁ B hml hv
  obtain ⟨rfl, hsz, hP, hK, hD0, hZ⟩ := hv
  have hx := B.exec
  have hb := B.bytes
  have hr := B.returns
  have hts : ∀ w ∈ Wall, w.before _ s = true := fun w hw => atoms_spec (ws := wm yX10_areWorksAt cX10_areWorksAt 5 (some .boolean)) B.pre w (List.mem_cons_of_mem _ hw)
  have hown : s.vm.findClass RX10 = some m.cls := findClass_of_methodNamed B.named
  have hlocks := B.notSynchronized
  subst hsz
  have hD := hD0.self (sz := s.heap.size)
  generalize hAe : va_A (wM cI cZ ad u) s.heap.size = A at hD hZ ⊢
  have hA : ∀ q : Nat, s.heap.size ≤ q → A q := fun q h => by rw [← hAe]; exact Or.inr h
  have hS : va_S A s.heap s.heap [] := va_S.rf
  have hf98 := hts _ mw_896
  have hf62 := hts _ mw_897
  have hf65 := hts _ mw_898
  have hf68 := hts _ mw_899
  have hl := lv_entry ([.ref (ad 0), .int p0, .int p1]) (n := 5) (Nat.le_of_ble_eq_true rfl)
  rw [lg_entry_eq]
  generalize (lg_sl ([.ref (ad 0), .int p0, .int p1]) ++ List.replicate (5 - (lg_sl ([.ref (ad 0), .int p0, .int p1])).length) Slot.unset).toArray = ls at hl ⊢
  replace hl : lv_has ls 5 [(0, .ref (ad 0)), (1, .int p0), (2, .int p1)] := hl
  refine w_gen (fun Q hQ => ?_)
  refine lv_iconst (v := 0) hx hb dX10_areWorksAt_0 (by decide) ?_
  refine lv_istore_n (lv' := [(3, .int (0 : Int32)), (0, .ref (ad 0)), (1, .int p0), (2, .int p1)]) hx hb dX10_areWorksAt_1 rfl hl (by decide) rfl (fun ls hl => ?_)
  refine lv_iconst (v := 0) hx hb dX10_areWorksAt_2 (by decide) ?_
  refine lv_istore (lv' := [(4, .int (0 : Int32)), (3, .int (0 : Int32)), (0, .ref (ad 0)), (1, .int p0), (2, .int p1)]) hx hb dX10_areWorksAt_3 hl (by decide) rfl (fun ls hl => ?_)
  have hL5 : ∀ (k : Int32 → Option (Int32)) (hk : ∀ (x3_5 : Int32) (H : Heap) (locs : List Loc) (ls : Array Slot), k x3_5 = some r → va_P D vwCl (wM cI cZ ad u) H → va_D A (wM cI cZ ad u) → va_S A s.heap H locs → lv_has ls 5 [(3, .int x3_5)] → W p l e rX10_areWorksAt s m ([.ref (ad 0), .int p0, .int p1] : List Value).toArray below meth c H locs 0 0 Q (F0 m 71 ls [])) (n : Nat) (x3_5 : Int32) (x4_5 : Int32) (H : Heap) (locs : List Loc) (ls : Array Slot), lp_X10_areWorksAt_5 u p0 p1 k n x3_5 x4_5 = some r → va_P D vwCl (wM cI cZ ad u) H → va_D A (wM cI cZ ad u) → va_S A s.heap H locs → lv_has ls 5 [(0, .ref (ad 0)), (1, .int p0), (2, .int p1), (3, .int x3_5), (4, .int x4_5)] → W p l e rX10_areWorksAt s m ([.ref (ad 0), .int p0, .int p1] : List Value).toArray below meth c H locs 0 0 Q (F0 m 5 ls []) := by
    intro k hk n
    induction n with
    | zero =>
      intro x3_5 x4_5 H locs ls h
      rw [lp_X10_areWorksAt_5] at h
      cases h
    | succ n ih =>
      intro x3_5 x4_5 H locs ls h hP hD hS hl
      rw [lp_X10_areWorksAt_5] at h
      refine lv_iload hx hb dX10_areWorksAt_5 (lv_at hl 4 rfl) ?_
      refine lv_aload_n hx hb dX10_areWorksAt_7 rfl (lv_at hl 0 rfl) ?_
      refine va_get (D := D) (ci := 10) (v := .int (mB_works u)) (C := RX10) (T := TX10) (N := 32) hx hb hts iX10 hown hK hP 0 rfl rfl 25 (by decide) hf98 (fun _ h9 => h9) rfl dX10_areWorksAt_8 ?_
      refine lv_icmp_ge (tgt := 71) hx hb dX10_areWorksAt_11 (by decide) (fun c1 => ?_) (fun c1 => ?_)
      · replace h := gx_t c1 h
        exact hk x3_5 _ _ _ h hP hD hS (lv_sub hl [3] rfl)
      · replace h := gx_f c1 h
        refine lv_iload_n hx hb dX10_areWorksAt_14 rfl (lv_at hl 3 rfl) ?_
        obtain ⟨j64_2, ej64_2, h⟩ := gx_let h
        have hj64_2 : ∀ (z0_64 : Int32) (H : Heap) (locs : List Loc) (ls : Array Slot), j64_2 z0_64 = some r → va_P D vwCl (wM cI cZ ad u) H → va_D A (wM cI cZ ad u) → va_S A s.heap H locs → lv_has ls 5 [(0, .ref (ad 0)), (1, .int p0), (2, .int p1), (4, .int x4_5)] → W p l e rX10_areWorksAt s m ([.ref (ad 0), .int p0, .int p1] : List Value).toArray below meth c H locs 0 0 Q (F0 m 64 ls [.int z0_64]) := by
          intro z0_64 H locs ls h hP hD hS hl
          subst ej64_2
          refine lv_istore_n (lv' := [(3, .int z0_64), (0, .ref (ad 0)), (1, .int p0), (2, .int p1), (4, .int x4_5)]) hx hb dX10_areWorksAt_64 rfl hl (by decide) rfl (fun ls hl => ?_)
          obtain ⟨v3, ev3, h⟩ := gx_let h
          refine lv_iinc (v := v3) (lv' := [(4, .int v3), (3, .int z0_64), (0, .ref (ad 0)), (1, .int p0), (2, .int p1)]) hx hb dX10_areWorksAt_65 hl (k := 4) rfl (by rw [← ev3]; rfl) (by decide) rfl (fun ls hl => ?_)
          refine lv_goto (tgt := 5) hx hb dX10_areWorksAt_68 (by decide) ?_
          exact ih z0_64 v3 _ _ _ h hP hD hS (lv_sub hl [2, 3, 4, 1, 0] rfl)
        obtain ⟨j59_4, ej59_4, h⟩ := gx_let h
        have hj59_4 : ∀ (H : Heap) (locs : List Loc) (ls : Array Slot), j59_4 () = some r → va_P D vwCl (wM cI cZ ad u) H → va_D A (wM cI cZ ad u) → va_S A s.heap H locs → lv_has ls 5 [(0, .ref (ad 0)), (1, .int p0), (2, .int p1), (4, .int x4_5)] → W p l e rX10_areWorksAt s m ([.ref (ad 0), .int p0, .int p1] : List Value).toArray below meth c H locs 0 0 Q (F0 m 59 ls []) := by
          intro  H locs ls h hP hD hS hl
          subst ej59_4
          refine lv_iconst (v := 1) hx hb dX10_areWorksAt_59 (by decide) ?_
          refine lv_goto (tgt := 64) hx hb dX10_areWorksAt_60 (by decide) ?_
          exact hj64_2 (1 : Int32) _ _ _ h hP hD hS (lv_sub hl [0, 1, 2, 3] rfl)
        refine lv_if_ne (tgt := 59) hx hb dX10_areWorksAt_15 (by decide) (fun c5 => ?_) (fun c5 => ?_)
        · replace h := gx_f c5 h
          exact hj59_4 _ _ _ h hP hD hS (lv_sub hl [0, 1, 2, 4] rfl)
        · replace h := gx_t c5 h
          refine lv_aload_n hx hb dX10_areWorksAt_18 rfl (lv_at hl 0 rfl) ?_
          refine va_get (D := D) (ci := 10) (v := .ref (ad 18)) (C := RX10) (T := TX10) (N := 32) hx hb hts iX10 hown hK hP 0 rfl rfl 26 (by decide) hf62 (fun _ h9 => h9) rfl dX10_areWorksAt_19 ?_
          refine lv_iload hx hb dX10_areWorksAt_22 (lv_at hl 4 rfl) ?_
          obtain ⟨b6, h⟩ := gx_in h
          refine va_iald (D := D) hx hb hK hP 18 0 rfl rfl b6 dX10_areWorksAt_24 ?_
          refine lv_iload_n hx hb dX10_areWorksAt_25 rfl (lv_at hl 2 rfl) ?_
          obtain ⟨j63_7, ej63_7, h⟩ := gx_let h
          have hj63_7 : ∀ (H : Heap) (locs : List Loc) (ls : Array Slot), j63_7 () = some r → va_P D vwCl (wM cI cZ ad u) H → va_D A (wM cI cZ ad u) → va_S A s.heap H locs → lv_has ls 5 [(0, .ref (ad 0)), (1, .int p0), (2, .int p1), (4, .int x4_5)] → W p l e rX10_areWorksAt s m ([.ref (ad 0), .int p0, .int p1] : List Value).toArray below meth c H locs 0 0 Q (F0 m 63 ls []) := by
            intro  H locs ls h hP hD hS hl
            subst ej63_7
            refine lv_iconst (v := 0) hx hb dX10_areWorksAt_63 (by decide) ?_
            exact hj64_2 (0 : Int32) _ _ _ h hP hD hS (lv_sub hl [0, 1, 2, 3] rfl)
          refine lv_icmp_ne (tgt := 63) hx hb dX10_areWorksAt_26 (by decide) (fun c8 => ?_) (fun c8 => ?_)
          · replace h := gx_f c8 h
            exact hj63_7 _ _ _ h hP hD hS (lv_sub hl [0, 1, 2, 4] rfl)
          · replace h := gx_t c8 h
            refine lv_iload_n hx hb dX10_areWorksAt_29 rfl (lv_at hl 1 rfl) ?_
            refine lv_aload_n hx hb dX10_areWorksAt_30 rfl (lv_at hl 0 rfl) ?_
            refine va_get (D := D) (ci := 10) (v := .ref (ad 19)) (C := RX10) (T := TX10) (N := 32) hx hb hts iX10 hown hK hP 0 rfl rfl 27 (by decide) hf65 (fun _ h9 => h9) rfl dX10_areWorksAt_31 ?_
            refine lv_iload hx hb dX10_areWorksAt_34 (lv_at hl 4 rfl) ?_
            obtain ⟨b9, h⟩ := gx_in h
            refine va_iald (D := D) hx hb hK hP 19 0 rfl rfl b9 dX10_areWorksAt_36 ?_
            refine lv_aload_n hx hb dX10_areWorksAt_37 rfl (lv_at hl 0 rfl) ?_
            refine va_get (D := D) (ci := 10) (v := .ref (ad 20)) (C := RX10) (T := TX10) (N := 32) hx hb hts iX10 hown hK hP 0 rfl rfl 28 (by decide) hf68 (fun _ h9 => h9) rfl dX10_areWorksAt_38 ?_
            refine lv_iload hx hb dX10_areWorksAt_41 (lv_at hl 4 rfl) ?_
            obtain ⟨b10, h⟩ := gx_in h
            refine va_iald (D := D) hx hb hK hP 20 0 rfl rfl b10 dX10_areWorksAt_43 ?_
            obtain ⟨y11, hc12, h⟩ := gx_bind h
            refine cc_iS (As := [.int p0, .int (mB_worksFrom u x4_5.toNatClampNeg), .int (mB_worksTo u x4_5.toNatClampNeg)]) (rest := []) ⟨hx, hb, hml, hown, hts⟩ (k_X10_isIn l D cI cZ ad u p0 (mB_worksFrom u x4_5.toNatClampNeg) (mB_worksTo u x4_5.toNatClampNeg) hc12) (va_cwS 3 hts (gwS mw_860 mw_861 mw_59 mw_862) rfl rfl rfl (by decide +kernel) ⟨Nat.le_of_ble_eq_true rfl, Nat.le_of_ble_eq_true rfl⟩) hK hP hD hS hA hZ rfl hl.1 rfl (Nat.le_of_ble_eq_true rfl) dX10_areWorksAt_44 ⟨Nat.zero_le _, Nat.zero_le _⟩ (fun H locs hP hD hS => ?_)
            refine lv_if_eq (tgt := 63) hx hb dX10_areWorksAt_47 (by decide) (fun c13 => ?_) (fun c13 => ?_)
            · replace h := gx_t c13 h
              exact hj63_7 _ _ _ h hP hD hS (lv_sub hl [0, 1, 2, 4] rfl)
            · replace h := gx_f c13 h
              refine lv_aload_n hx hb dX10_areWorksAt_50 rfl (lv_at hl 0 rfl) ?_
              refine lv_iload hx hb dX10_areWorksAt_51 (lv_at hl 4 rfl) ?_
              obtain ⟨y14, hc15, h⟩ := gx_bind h
              refine cc_iV (As := [.int x4_5]) (rest := []) ⟨hx, hb, hml, hown, hts⟩ (k_X10_isOnNow l D cI cZ ad u x4_5 hc15) (cwV 1 hts (gwV mw_863 mw_865 mw_22 mw_59 mw_866) rfl rfl rfl (by decide +kernel) ⟨Nat.le_of_ble_eq_true rfl, Nat.le_of_ble_eq_true rfl⟩) hK hP hD hS hA hZ (ci := 10) (q0 := 0) rfl rfl rfl hl.1 rfl (Nat.le_of_ble_eq_true rfl) dX10_areWorksAt_53 ⟨Nat.zero_le _, Nat.zero_le _⟩ (fun H locs hP hD hS => ?_)
              refine lv_if_eq (tgt := 63) hx hb dX10_areWorksAt_56 (by decide) (fun c16 => ?_) (fun c16 => ?_)
              · replace h := gx_t c16 h
                exact hj63_7 _ _ _ h hP hD hS (lv_sub hl [0, 1, 2, 4] rfl)
              · replace h := gx_f c16 h
                exact hj59_4 _ _ _ h hP hD hS (lv_sub hl [0, 1, 2, 4] rfl)
  refine hL5 _ (fun x3_5 H locs ls h hP hD hS hl => ?_) FU (0 : Int32) (0 : Int32) _ _ _ h hP hD hS (lv_sub hl [2, 3, 4, 1, 0] rfl)
  refine lv_iload_n hx hb dX10_areWorksAt_71 rfl (lv_at hl 0 rfl) ?_
  obtain ⟨bo, h⟩ := gx_bo h
  cases h
  exact cc_ret hx hb hr bo hQ hK hP hD hS rfl dX10_areWorksAt_72 hlocks

def rX10_isConfirmedAt : Room := { frames := 0, cells := 0, slots := 0, locals := 0 }
set_option maxHeartbeats 4000000 in
set_option maxRecDepth 100000 in
theorem k_X10_isConfirmedAt (l : Launch) (D : va_G) (cI cZ : ClassId) (ad : Nat → Nat) (u : MS) (p0 : Int32) {r : Int32} (h : g_X10_isConfirmedAt u p0 = some r) : MI l yX10_isConfirmedAt (wm yX10_isConfirmedAt cX10_isConfirmedAt 4 (some .boolean)) rX10_isConfirmedAt D [(cI, .int), (cZ, .boolean)] (wM cI cZ ad u) (wM cI cZ ad u) [.ref (ad 0), .int p0] r := by
  intro sz
  refine Met.ofW (cc := cX10_isConfirmedAt) (maxL := 4) (ret := (some .boolean)) (by decide) rfl ?_
  intro p e s m args below meth c s₁ B hml hv
  obtain ⟨rfl, hsz, hP, hK, hD0, hZ⟩ := hv
  have hx := B.exec
  have hb := B.bytes
  have hr := B.returns
  have hts : ∀ w ∈ Wall, w.before _ s = true := fun w hw => atoms_spec (ws := wm yX10_isConfirmedAt cX10_isConfirmedAt 4 (some .boolean)) B.pre w (List.mem_cons_of_mem _ hw)
  have hown : s.vm.findClass RX10 = some m.cls := findClass_of_methodNamed B.named
  have hlocks := B.notSynchronized
  subst hsz
  have hD := hD0.self (sz := s.heap.size)
  generalize hAe : va_A (wM cI cZ ad u) s.heap.size = A at hD hZ ⊢
  have hA : ∀ q : Nat, s.heap.size ≤ q → A q := fun q h => by rw [← hAe]; exact Or.inr h
  have hS : va_S A s.heap s.heap [] := va_S.rf
  have hf104 := hts _ mw_890
  have hf47 := hts _ mw_891
  have hf50 := hts _ mw_892
  have hl := lv_entry ([.ref (ad 0), .int p0]) (n := 4) (Nat.le_of_ble_eq_true rfl)
  rw [lg_entry_eq]
  generalize (lg_sl ([.ref (ad 0), .int p0]) ++ List.replicate (4 - (lg_sl ([.ref (ad 0), .int p0])).length) Slot.unset).toArray = ls at hl ⊢
  replace hl : lv_has ls 4 [(0, .ref (ad 0)), (1, .int p0)] := hl
  refine w_gen (fun Q hQ => ?_)
  refine lv_iconst (v := 0) hx hb dX10_isConfirmedAt_0 (by decide) ?_
  refine lv_istore_n (lv' := [(2, .int (0 : Int32)), (0, .ref (ad 0)), (1, .int p0)]) hx hb dX10_isConfirmedAt_1 rfl hl (by decide) rfl (fun ls hl => ?_)
  refine lv_iconst (v := 0) hx hb dX10_isConfirmedAt_2 (by decide) ?_
  refine lv_istore_n (lv' := [(3, .int (0 : Int32)), (2, .int (0 : Int32)), (0, .ref (ad 0)), (1, .int p0)]) hx hb dX10_isConfirmedAt_3 rfl hl (by decide) rfl (fun ls hl => ?_)
  have hL4 : ∀ (k : Int32 → Option (Int32)) (hk : ∀ (x2_4 : Int32) (H : Heap) (locs : List Loc) (ls : Array Slot), k x2_4 = some r → va_P D vwCl (wM cI cZ ad u) H → va_D A (wM cI cZ ad u) → va_S A s.heap H locs → lv_has ls 4 [(2, .int x2_4)] → W p l e rX10_isConfirmedAt s m ([.ref (ad 0), .int p0] : List Value).toArray below meth c H locs 0 0 Q (F0 m 48 ls [])) (n : Nat) (x2_4 : Int32) (x3_4 : Int32) (H : Heap) (locs : List Loc) (ls : Array Slot), lp_X10_isConfirmedAt_4 u p0 k n x2_4 x3_4 = some r → va_P D vwCl (wM cI cZ ad u) H → va_D A (wM cI cZ ad u) → va_S A s.heap H locs → lv_has ls 4 [(0, .ref (ad 0)), (1, .int p0), (2, .int x2_4), (3, .int x3_4)] → W p l e rX10_isConfirmedAt s m ([.ref (ad 0), .int p0] : List Value).toArray below meth c H locs 0 0 Q (F0 m 4 ls []) := by
    intro k hk n
    induction n with
    | zero =>
      intro x2_4 x3_4 H locs ls h
      rw [lp_X10_isConfirmedAt_4] at h
      cases h
    | succ n ih =>
      intro x2_4 x3_4 H locs ls h hP hD hS hl
      rw [lp_X10_isConfirmedAt_4] at h
      refine lv_iload_n hx hb dX10_isConfirmedAt_4 rfl (lv_at hl 3 rfl) ?_
      refine lv_aload_n hx hb dX10_isConfirmedAt_5 rfl (lv_at hl 0 rfl) ?_
      refine va_get (D := D) (ci := 10) (v := .int (mI_incidents u)) (C := RX10) (T := TX10) (N := 32) hx hb hts iX10 hown hK hP 0 rfl rfl 19 (by decide) hf104 (fun _ h9 => h9) rfl dX10_isConfirmedAt_6 ?_
      refine lv_icmp_ge (tgt := 48) hx hb dX10_isConfirmedAt_9 (by decide) (fun c1 => ?_) (fun c1 => ?_)
      · replace h := gx_t c1 h
        exact hk x2_4 _ _ _ h hP hD hS (lv_sub hl [2] rfl)
      · replace h := gx_f c1 h
        refine lv_iload_n hx hb dX10_isConfirmedAt_12 rfl (lv_at hl 2 rfl) ?_
        obtain ⟨j41_2, ej41_2, h⟩ := gx_let h
        have hj41_2 : ∀ (z0_41 : Int32) (H : Heap) (locs : List Loc) (ls : Array Slot), j41_2 z0_41 = some r → va_P D vwCl (wM cI cZ ad u) H → va_D A (wM cI cZ ad u) → va_S A s.heap H locs → lv_has ls 4 [(0, .ref (ad 0)), (1, .int p0), (3, .int x3_4)] → W p l e rX10_isConfirmedAt s m ([.ref (ad 0), .int p0] : List Value).toArray below meth c H locs 0 0 Q (F0 m 41 ls [.int z0_41]) := by
          intro z0_41 H locs ls h hP hD hS hl
          subst ej41_2
          refine lv_istore_n (lv' := [(2, .int z0_41), (0, .ref (ad 0)), (1, .int p0), (3, .int x3_4)]) hx hb dX10_isConfirmedAt_41 rfl hl (by decide) rfl (fun ls hl => ?_)
          obtain ⟨v3, ev3, h⟩ := gx_let h
          refine lv_iinc (v := v3) (lv' := [(3, .int v3), (2, .int z0_41), (0, .ref (ad 0)), (1, .int p0)]) hx hb dX10_isConfirmedAt_42 hl (k := 3) rfl (by rw [← ev3]; rfl) (by decide) rfl (fun ls hl => ?_)
          refine lv_goto (tgt := 4) hx hb dX10_isConfirmedAt_45 (by decide) ?_
          exact ih z0_41 v3 _ _ _ h hP hD hS (lv_sub hl [2, 3, 1, 0] rfl)
        obtain ⟨j36_4, ej36_4, h⟩ := gx_let h
        have hj36_4 : ∀ (H : Heap) (locs : List Loc) (ls : Array Slot), j36_4 () = some r → va_P D vwCl (wM cI cZ ad u) H → va_D A (wM cI cZ ad u) → va_S A s.heap H locs → lv_has ls 4 [(0, .ref (ad 0)), (1, .int p0), (3, .int x3_4)] → W p l e rX10_isConfirmedAt s m ([.ref (ad 0), .int p0] : List Value).toArray below meth c H locs 0 0 Q (F0 m 36 ls []) := by
          intro  H locs ls h hP hD hS hl
          subst ej36_4
          refine lv_iconst (v := 1) hx hb dX10_isConfirmedAt_36 (by decide) ?_
          refine lv_goto (tgt := 41) hx hb dX10_isConfirmedAt_37 (by decide) ?_
          exact hj41_2 (1 : Int32) _ _ _ h hP hD hS (lv_sub hl [0, 1, 2] rfl)
        refine lv_if_ne (tgt := 36) hx hb dX10_isConfirmedAt_13 (by decide) (fun c5 => ?_) (fun c5 => ?_)
        · replace h := gx_f c5 h
          exact hj36_4 _ _ _ h hP hD hS (lv_sub hl [0, 1, 3] rfl)
        · replace h := gx_t c5 h
          refine lv_aload_n hx hb dX10_isConfirmedAt_16 rfl (lv_at hl 0 rfl) ?_
          refine va_get (D := D) (ci := 10) (v := .ref (ad 13)) (C := RX10) (T := TX10) (N := 32) hx hb hts iX10 hown hK hP 0 rfl rfl 20 (by decide) hf47 (fun _ h9 => h9) rfl dX10_isConfirmedAt_17 ?_
          refine lv_iload_n hx hb dX10_isConfirmedAt_20 rfl (lv_at hl 3 rfl) ?_
          obtain ⟨b6, h⟩ := gx_in h
          refine va_iald (D := D) hx hb hK hP 13 0 rfl rfl b6 dX10_isConfirmedAt_21 ?_
          refine lv_iload_n hx hb dX10_isConfirmedAt_22 rfl (lv_at hl 1 rfl) ?_
          obtain ⟨j40_7, ej40_7, h⟩ := gx_let h
          have hj40_7 : ∀ (H : Heap) (locs : List Loc) (ls : Array Slot), j40_7 () = some r → va_P D vwCl (wM cI cZ ad u) H → va_D A (wM cI cZ ad u) → va_S A s.heap H locs → lv_has ls 4 [(0, .ref (ad 0)), (1, .int p0), (3, .int x3_4)] → W p l e rX10_isConfirmedAt s m ([.ref (ad 0), .int p0] : List Value).toArray below meth c H locs 0 0 Q (F0 m 40 ls []) := by
            intro  H locs ls h hP hD hS hl
            subst ej40_7
            refine lv_iconst (v := 0) hx hb dX10_isConfirmedAt_40 (by decide) ?_
            exact hj41_2 (0 : Int32) _ _ _ h hP hD hS (lv_sub hl [0, 1, 2] rfl)
          refine lv_icmp_ne (tgt := 40) hx hb dX10_isConfirmedAt_23 (by decide) (fun c8 => ?_) (fun c8 => ?_)
          · replace h := gx_f c8 h
            exact hj40_7 _ _ _ h hP hD hS (lv_sub hl [0, 1, 3] rfl)
          · replace h := gx_t c8 h
            refine lv_aload_n hx hb dX10_isConfirmedAt_26 rfl (lv_at hl 0 rfl) ?_
            refine va_get (D := D) (ci := 10) (v := .ref (ad 14)) (C := RX10) (T := TX10) (N := 32) hx hb hts iX10 hown hK hP 0 rfl rfl 21 (by decide) hf50 (fun _ h9 => h9) rfl dX10_isConfirmedAt_27 ?_
            refine lv_iload_n hx hb dX10_isConfirmedAt_30 rfl (lv_at hl 3 rfl) ?_
            obtain ⟨b9, h⟩ := gx_in h
            refine va_iald (D := D) hx hb hK hP 14 0 rfl rfl b9 dX10_isConfirmedAt_31 ?_
            refine lv_iconst (v := 1) hx hb dX10_isConfirmedAt_32 (by decide) ?_
            refine lv_icmp_ne (tgt := 40) hx hb dX10_isConfirmedAt_33 (by decide) (fun c10 => ?_) (fun c10 => ?_)
            · replace h := gx_f c10 h
              exact hj40_7 _ _ _ h hP hD hS (lv_sub hl [0, 1, 3] rfl)
            · replace h := gx_t c10 h
              exact hj36_4 _ _ _ h hP hD hS (lv_sub hl [0, 1, 3] rfl)
  refine hL4 _ (fun x2_4 H locs ls h hP hD hS hl => ?_) FU (0 : Int32) (0 : Int32) _ _ _ h hP hD hS (lv_sub hl [2, 3, 1, 0] rfl)
  refine lv_iload_n hx hb dX10_isConfirmedAt_48 rfl (lv_at hl 0 rfl) ?_
  obtain ⟨bo, h⟩ := gx_bo h
  cases h
  exact cc_ret hx hb hr bo hQ hK hP hD hS rfl dX10_isConfirmedAt_49 hlocks

def rX10_told : Room := { frames := 2, cells := 0, slots := 0, locals := 46 }
set_option maxHeartbeats 4000000 in
set_option maxRecDepth 100000 in
theorem k_X10_told (l : Launch) (D : va_G) (cI cZ : ClassId) (ad : Nat → Nat) (u : MS) (p0 : Int32) (p1 : Int32) {r : Int32} (h : g_X10_told u p0 p1 = some r) : MI l yX10_told (wm yX10_told cX10_told 5 (some .int)) rX10_told D [(cI, .int), (cZ, .boolean)] (wM cI cZ ad u) (wM cI cZ ad u) [.ref (ad 0), .int p0, .int p1] r := by
  intro sz
  refine Met.ofW (cc := cX10_told) (maxL := 5) (ret := (some .int)) (by decide) rfl ?_
  intro p e s m args below meth c s₁ B hml hv
  obtain ⟨rfl, hsz, hP, hK, hD0, hZ⟩ := hv
  have hx := B.exec
  have hb := B.bytes
  have hr := B.returns
  have hts : ∀ w ∈ Wall, w.before _ s = true := fun w hw => atoms_spec (ws := wm yX10_told cX10_told 5 (some .int)) B.pre w (List.mem_cons_of_mem _ hw)
  have hown : s.vm.findClass RX10 = some m.cls := findClass_of_methodNamed B.named
  have hlocks := B.notSynchronized
  subst hsz
  have hD := hD0.self (sz := s.heap.size)
  generalize hAe : va_A (wM cI cZ ad u) s.heap.size = A at hD hZ ⊢
  have hA : ∀ q : Nat, s.heap.size ≤ q → A q := fun q h => by rw [← hAe]; exact Or.inr h
  have hS : va_S A s.heap s.heap [] := va_S.rf
  have hf17 := hts _ mw_879
  have hf23 := hts _ mw_881
  have hl := lv_entry ([.ref (ad 0), .int p0, .int p1]) (n := 5) (Nat.le_of_ble_eq_true rfl)
  rw [lg_entry_eq]
  generalize (lg_sl ([.ref (ad 0), .int p0, .int p1]) ++ List.replicate (5 - (lg_sl ([.ref (ad 0), .int p0, .int p1])).length) Slot.unset).toArray = ls at hl ⊢
  replace hl : lv_has ls 5 [(0, .ref (ad 0)), (1, .int p0), (2, .int p1)] := hl
  refine w_gen (fun Q hQ => ?_)
  refine lv_iconst (v := 4) hx hb dX10_told_0 (by decide) ?_
  refine lv_iload_n hx hb dX10_told_1 rfl (lv_at hl 1 rfl) ?_
  refine lv_imul hx hb dX10_told_2 ?_
  refine lv_iload_n hx hb dX10_told_3 rfl (lv_at hl 2 rfl) ?_
  refine lv_iadd hx hb dX10_told_4 ?_
  obtain ⟨v1, ev1, h⟩ := gx_let h
  refine lv_topn ev1 ?_
  refine lv_istore_n (lv' := [(3, .int v1), (0, .ref (ad 0)), (1, .int p0), (2, .int p1)]) hx hb dX10_told_5 rfl hl (by decide) rfl (fun ls hl => ?_)
  refine lv_aload_n hx hb dX10_told_6 rfl (lv_at hl 1 rfl) ?_
  refine va_get (D := D) (ci := 10) (v := .ref (ad 3)) (C := RX10) (T := TX10) (N := 32) hx hb hts iX10 hown hK hP 0 rfl rfl 8 (by decide) hf17 (fun _ h9 => h9) rfl dX10_told_7 ?_
  refine lv_iload_n hx hb dX10_told_10 rfl (lv_at hl 0 rfl) ?_
  obtain ⟨b2, h⟩ := gx_in h
  refine va_iald (D := D) hx hb hK hP 3 0 rfl rfl b2 dX10_told_11 ?_
  refine lv_iconst (v := (-1)) hx hb dX10_told_12 (by decide) ?_
  refine lv_icmp_eq (tgt := 23) hx hb dX10_told_13 (by decide) (fun c3 => ?_) (fun c3 => ?_)
  · replace h := gx_t c3 h
    refine lv_aload_n hx hb dX10_told_23 rfl (lv_at hl 1 rfl) ?_
    refine lv_iload_n hx hb dX10_told_24 rfl (lv_at hl 2 rfl) ?_
    refine lv_iload_n hx hb dX10_told_25 rfl (lv_at hl 3 rfl) ?_
    obtain ⟨y4, hc5, h⟩ := gx_bind h
    refine cc_iV (As := [.int p0, .int p1]) (rest := []) ⟨hx, hb, hml, hown, hts⟩ (k_X10_areWorksAt l D cI cZ ad u p0 p1 hc5) (cwV 2 hts (gwV mw_856 mw_858 mw_21 mw_59 mw_859) rfl rfl rfl (by decide +kernel) ⟨Nat.le_of_ble_eq_true rfl, Nat.le_of_ble_eq_true rfl⟩) hK hP hD hS hA hZ (ci := 10) (q0 := 0) rfl rfl rfl hl.1 rfl (Nat.le_of_ble_eq_true rfl) dX10_told_26 ⟨Nat.zero_le _, Nat.zero_le _⟩ (fun H locs hP hD hS => ?_)
    obtain ⟨j58_6, ej58_6, h⟩ := gx_let h
    have hj58_6 : ∀ (z0_58 : Int32) (H : Heap) (locs : List Loc) (ls : Array Slot), j58_6 z0_58 = some r → va_P D vwCl (wM cI cZ ad u) H → va_D A (wM cI cZ ad u) → va_S A s.heap H locs → lv_has ls 5 [] → W p l e rX10_told s m ([.ref (ad 0), .int p0, .int p1] : List Value).toArray below meth c H locs 0 0 Q (F0 m 58 ls [.int z0_58]) := by
      intro z0_58 H locs ls h hP hD hS hl
      subst ej58_6
      refine lv_istore (lv' := [(4, .int z0_58)]) hx hb dX10_told_58 hl (by decide) rfl (fun ls hl => ?_)
      refine lv_iload hx hb dX10_told_60 (lv_at hl 0 rfl) ?_
      refine lv_if_eq (tgt := 69) hx hb dX10_told_62 (by decide) (fun c7 => ?_) (fun c7 => ?_)
      · replace h := gx_t c7 h
        refine lv_iconst (v := 0) hx hb dX10_told_69 (by decide) ?_
        cases h
        exact cc_ret hx hb hr rfl hQ hK hP hD hS rfl dX10_told_70 hlocks
      · replace h := gx_f c7 h
        refine lv_iconst (v := 2) hx hb dX10_told_65 (by decide) ?_
        refine lv_goto (tgt := 70) hx hb dX10_told_66 (by decide) ?_
        cases h
        exact cc_ret hx hb hr rfl hQ hK hP hD hS rfl dX10_told_70 hlocks
    obtain ⟨j53_8, ej53_8, h⟩ := gx_let h
    have hj53_8 : ∀ (H : Heap) (locs : List Loc) (ls : Array Slot), j53_8 () = some r → va_P D vwCl (wM cI cZ ad u) H → va_D A (wM cI cZ ad u) → va_S A s.heap H locs → lv_has ls 5 [] → W p l e rX10_told s m ([.ref (ad 0), .int p0, .int p1] : List Value).toArray below meth c H locs 0 0 Q (F0 m 53 ls []) := by
      intro  H locs ls h hP hD hS hl
      subst ej53_8
      refine lv_iconst (v := 1) hx hb dX10_told_53 (by decide) ?_
      refine lv_goto (tgt := 58) hx hb dX10_told_54 (by decide) ?_
      exact hj58_6 (1 : Int32) _ _ _ h hP hD hS (lv_sub hl [] rfl)
    refine lv_if_ne (tgt := 53) hx hb dX10_told_29 (by decide) (fun c9 => ?_) (fun c9 => ?_)
    · replace h := gx_f c9 h
      exact hj53_8 _ _ _ h hP hD hS (lv_sub hl [] rfl)
    · replace h := gx_t c9 h
      refine lv_aload_n hx hb dX10_told_32 rfl (lv_at hl 1 rfl) ?_
      refine lv_iload_n hx hb dX10_told_33 rfl (lv_at hl 0 rfl) ?_
      obtain ⟨y10, hc11, h⟩ := gx_bind h
      refine cc_iV (As := [.int v1]) (rest := []) ⟨hx, hb, hml, hown, hts⟩ (k_X10_isConfirmedAt l D cI cZ ad u v1 hc11) (cwV 1 hts (gwV mw_867 mw_869 mw_23 mw_59 mw_870) rfl rfl rfl (by decide +kernel) ⟨Nat.le_of_ble_eq_true rfl, Nat.le_of_ble_eq_true rfl⟩) hK hP hD hS hA hZ (ci := 10) (q0 := 0) rfl rfl rfl hl.1 rfl (Nat.le_of_ble_eq_true rfl) dX10_told_34 ⟨Nat.zero_le _, Nat.zero_le _⟩ (fun H locs hP hD hS => ?_)
      refine lv_if_ne (tgt := 53) hx hb dX10_told_37 (by decide) (fun c12 => ?_) (fun c12 => ?_)
      · replace h := gx_f c12 h
        exact hj53_8 _ _ _ h hP hD hS (lv_sub hl [] rfl)
      · replace h := gx_t c12 h
        refine lv_iload_n hx hb dX10_told_40 rfl (lv_at hl 3 rfl) ?_
        obtain ⟨j57_13, ej57_13, h⟩ := gx_let h
        have hj57_13 : ∀ (H : Heap) (locs : List Loc) (ls : Array Slot), j57_13 () = some r → va_P D vwCl (wM cI cZ ad u) H → va_D A (wM cI cZ ad u) → va_S A s.heap H locs → lv_has ls 5 [] → W p l e rX10_told s m ([.ref (ad 0), .int p0, .int p1] : List Value).toArray below meth c H locs 0 0 Q (F0 m 57 ls []) := by
          intro  H locs ls h hP hD hS hl
          subst ej57_13
          refine lv_iconst (v := 0) hx hb dX10_told_57 (by decide) ?_
          exact hj58_6 (0 : Int32) _ _ _ h hP hD hS (lv_sub hl [] rfl)
        refine lv_if_ne (tgt := 57) hx hb dX10_told_41 (by decide) (fun c14 => ?_) (fun c14 => ?_)
        · replace h := gx_f c14 h
          exact hj57_13 _ _ _ h hP hD hS (lv_sub hl [] rfl)
        · replace h := gx_t c14 h
          refine lv_aload_n hx hb dX10_told_44 rfl (lv_at hl 1 rfl) ?_
          refine va_get (D := D) (ci := 10) (v := .ref (ad 5)) (C := RX10) (T := TX10) (N := 32) hx hb hts iX10 hown hK hP 0 rfl rfl 10 (by decide) hf23 (fun _ h9 => h9) rfl dX10_told_45 ?_
          refine lv_iload_n hx hb dX10_told_48 rfl (lv_at hl 2 rfl) ?_
          obtain ⟨b15, h⟩ := gx_in h
          refine va_zald (D := D) hx hb hK hP 5 1 rfl rfl b15 dX10_told_49 ?_
          refine lv_if_ne (tgt := 57) hx hb dX10_told_50 (by decide) (fun c16 => ?_) (fun c16 => ?_)
          · replace h := gx_f c16 h
            exact hj57_13 _ _ _ h hP hD hS (lv_sub hl [] rfl)
          · replace h := gx_t c16 h
            exact hj53_8 _ _ _ h hP hD hS (lv_sub hl [] rfl)
  · replace h := gx_f c3 h
    refine lv_aload_n hx hb dX10_told_16 rfl (lv_at hl 1 rfl) ?_
    refine va_get (D := D) (ci := 10) (v := .ref (ad 3)) (C := RX10) (T := TX10) (N := 32) hx hb hts iX10 hown hK hP 0 rfl rfl 8 (by decide) hf17 (fun _ h9 => h9) rfl dX10_told_17 ?_
    refine lv_iload_n hx hb dX10_told_20 rfl (lv_at hl 0 rfl) ?_
    obtain ⟨b17, h⟩ := gx_in h
    refine va_iald (D := D) hx hb hK hP 3 0 rfl rfl b17 dX10_told_21 ?_
    cases h
    exact cc_ret hx hb hr rfl hQ hK hP hD hS rfl dX10_told_22 hlocks

def rX10_signOf : Room := { frames := 3, cells := 0, slots := 0, locals := 70 }
set_option maxHeartbeats 4000000 in
set_option maxRecDepth 100000 in
theorem k_X10_signOf (l : Launch) (D : va_G) (cI cZ : ClassId) (ad : Nat → Nat) (u : MS) (p0 : Int32) (p1 : Int32) {r : Int32} (h : g_X10_signOf u p0 p1 = some r) : MI l yX10_signOf (wm yX10_signOf cX10_signOf 4 (some .int)) rX10_signOf D [(cI, .int), (cZ, .boolean)] (wM cI cZ ad u) (wM cI cZ ad u) [.ref (ad 0), .int p0, .int p1] r := by
  intro sz
  refine Met.ofW (cc := cX10_signOf) (maxL := 4) (ret := (some .int)) (by decide) rfl ?_
  intro p e s m args below meth c s₁ B hml hv
  obtain ⟨rfl, hsz, hP, hK, hD0, hZ⟩ := hv
  have hx := B.exec
  have hb := B.bytes
  have hr := B.returns
  have hts : ∀ w ∈ Wall, w.before _ s = true := fun w hw => atoms_spec (ws := wm yX10_signOf cX10_signOf 4 (some .int)) B.pre w (List.mem_cons_of_mem _ hw)
  have hown : s.vm.findClass RX10 = some m.cls := findClass_of_methodNamed B.named
  have hlocks := B.notSynchronized
  subst hsz
  have hD := hD0.self (sz := s.heap.size)
  generalize hAe : va_A (wM cI cZ ad u) s.heap.size = A at hD hZ ⊢
  have hA : ∀ q : Nat, s.heap.size ≤ q → A q := fun q h => by rw [← hAe]; exact Or.inr h
  have hS : va_S A s.heap s.heap [] := va_S.rf
  have hl := lv_entry ([.ref (ad 0), .int p0, .int p1]) (n := 4) (Nat.le_of_ble_eq_true rfl)
  rw [lg_entry_eq]
  generalize (lg_sl ([.ref (ad 0), .int p0, .int p1]) ++ List.replicate (4 - (lg_sl ([.ref (ad 0), .int p0, .int p1])).length) Slot.unset).toArray = ls at hl ⊢
  replace hl : lv_has ls 4 [(0, .ref (ad 0)), (1, .int p0), (2, .int p1)] := hl
  refine w_gen (fun Q hQ => ?_)
  refine lv_aload_n hx hb dX10_signOf_0 rfl (lv_at hl 0 rfl) ?_
  refine lv_iload_n hx hb dX10_signOf_1 rfl (lv_at hl 1 rfl) ?_
  refine lv_iload_n hx hb dX10_signOf_2 rfl (lv_at hl 2 rfl) ?_
  obtain ⟨y1, hc2, h⟩ := gx_bind h
  refine cc_iV (As := [.int p0, .int p1]) (rest := []) ⟨hx, hb, hml, hown, hts⟩ (k_X10_told l D cI cZ ad u p0 p1 hc2) (cwV 2 hts (gwV mw_852 mw_854 mw_20 mw_59 mw_855) rfl rfl rfl (by decide +kernel) ⟨Nat.le_of_ble_eq_true rfl, Nat.le_of_ble_eq_true rfl⟩) hK hP hD hS hA hZ (ci := 10) (q0 := 0) rfl rfl rfl hl.1 rfl (Nat.le_of_ble_eq_true rfl) dX10_signOf_3 ⟨Nat.zero_le _, Nat.zero_le _⟩ (fun H locs hP hD hS => ?_)
  refine lv_istore_n (lv' := [(3, .int y1), (0, .ref (ad 0)), (1, .int p0), (2, .int p1)]) hx hb dX10_signOf_6 rfl hl (by decide) rfl (fun ls hl => ?_)
  refine lv_iload_n hx hb dX10_signOf_7 rfl (lv_at hl 0 rfl) ?_
  refine lv_if_ne (tgt := 33) hx hb dX10_signOf_8 (by decide) (fun c3 => ?_) (fun c3 => ?_)
  · replace h := gx_f c3 h
    refine lv_iload_n hx hb dX10_signOf_33 rfl (lv_at hl 0 rfl) ?_
    cases h
    exact cc_ret hx hb hr rfl hQ hK hP hD hS rfl dX10_signOf_34 hlocks
  · replace h := gx_t c3 h
    refine lv_iload_n hx hb dX10_signOf_11 rfl (lv_at hl 2 rfl) ?_
    refine lv_bipush (v := 11) hx hb dX10_signOf_12 (by decide) ?_
    refine lv_icmp_ge (tgt := 33) hx hb dX10_signOf_14 (by decide) (fun c4 => ?_) (fun c4 => ?_)
    · replace h := gx_t c4 h
      refine lv_iload_n hx hb dX10_signOf_33 rfl (lv_at hl 0 rfl) ?_
      cases h
      exact cc_ret hx hb hr rfl hQ hK hP hD hS rfl dX10_signOf_34 hlocks
    · replace h := gx_f c4 h
      refine lv_aload_n hx hb dX10_signOf_17 rfl (lv_at hl 1 rfl) ?_
      refine lv_iload_n hx hb dX10_signOf_18 rfl (lv_at hl 2 rfl) ?_
      refine lv_iconst (v := 1) hx hb dX10_signOf_19 (by decide) ?_
      refine lv_iadd hx hb dX10_signOf_20 ?_
      refine lv_iload_n hx hb dX10_signOf_21 rfl (lv_at hl 3 rfl) ?_
      obtain ⟨y5, hc6, h⟩ := gx_bind h
      refine cc_iV (As := [.int (p0 + (1 : Int32)), .int p1]) (rest := []) ⟨hx, hb, hml, hown, hts⟩ (k_X10_told l D cI cZ ad u (p0 + (1 : Int32)) p1 hc6) (cwV 2 hts (gwV mw_852 mw_854 mw_20 mw_59 mw_855) rfl rfl rfl (by decide +kernel) ⟨Nat.le_of_ble_eq_true rfl, Nat.le_of_ble_eq_true rfl⟩) hK hP hD hS hA hZ (ci := 10) (q0 := 0) rfl rfl rfl hl.1 rfl (Nat.le_of_ble_eq_true rfl) dX10_signOf_22 ⟨Nat.zero_le _, Nat.zero_le _⟩ (fun H locs hP hD hS => ?_)
      refine lv_iconst (v := 2) hx hb dX10_signOf_25 (by decide) ?_
      refine lv_icmp_ne (tgt := 33) hx hb dX10_signOf_26 (by decide) (fun c7 => ?_) (fun c7 => ?_)
      · replace h := gx_f c7 h
        refine lv_iload_n hx hb dX10_signOf_33 rfl (lv_at hl 0 rfl) ?_
        cases h
        exact cc_ret hx hb hr rfl hQ hK hP hD hS rfl dX10_signOf_34 hlocks
      · replace h := gx_t c7 h
        refine lv_iconst (v := 1) hx hb dX10_signOf_29 (by decide) ?_
        refine lv_goto (tgt := 34) hx hb dX10_signOf_30 (by decide) ?_
        cases h
        exact cc_ret hx hb hr rfl hQ hK hP hD hS rfl dX10_signOf_34 hlocks

def rX10_keeps : Room := { frames := 4, cells := 0, slots := 0, locals := 93 }
set_option maxHeartbeats 4000000 in
set_option maxRecDepth 100000 in
theorem k_X10_keeps (l : Launch) (D : va_G) (cI cZ : ClassId) (ad : Nat → Nat) (u : MS) {w' : MS} (h : g_X10_keeps u = some w') : MV l yX10_keeps (wm yX10_keeps cX10_keeps 4 none) rX10_keeps D [(cI, .int), (cZ, .boolean)] (wM cI cZ ad u) (wM cI cZ ad w') [.ref (ad 0)] := by
  intro sz
  refine Met.ofW (cc := cX10_keeps) (maxL := 4) (ret := none) (by decide) rfl ?_
  intro p e s m args below meth c s₁ B hml hv
  obtain ⟨rfl, hsz, hP, hK, hD0, hZ⟩ := hv
  have hx := B.exec
  have hb := B.bytes
  have hr := B.returns
  have hts : ∀ w ∈ Wall, w.before _ s = true := fun w hw => atoms_spec (ws := wm yX10_keeps cX10_keeps 4 none) B.pre w (List.mem_cons_of_mem _ hw)
  have hown : s.vm.findClass RX10 = some m.cls := findClass_of_methodNamed B.named
  have hlocks := B.notSynchronized
  subst hsz
  have hD := hD0.self (sz := s.heap.size)
  generalize hAe : va_A (wM cI cZ ad u) s.heap.size = A at hD hZ ⊢
  have hA : ∀ q : Nat, s.heap.size ≤ q → A q := fun q h => by rw [← hAe]; exact Or.inr h
  have hS : va_S A s.heap s.heap [] := va_S.rf
  have hf95 := hts _ mw_872
  have hf77 := hts _ mw_902
  have hf41 := hts _ mw_887
  have hl := lv_entry ([.ref (ad 0)]) (n := 4) (Nat.le_of_ble_eq_true rfl)
  rw [lg_entry_eq]
  generalize (lg_sl ([.ref (ad 0)]) ++ List.replicate (4 - (lg_sl ([.ref (ad 0)])).length) Slot.unset).toArray = ls at hl ⊢
  replace hl : lv_has ls 4 [(0, .ref (ad 0))] := hl
  refine w_gen (fun Q hQ => ?_)
  refine lv_bipush (v := 60) hx hb dX10_keeps_0 (by decide) ?_
  refine lv_aload_n hx hb dX10_keeps_2 rfl (lv_at hl 0 rfl) ?_
  refine va_get (D := D) (ci := 10) (v := .int (m_now u)) (C := RX10) (T := TX10) (N := 32) hx hb hts iX10 hown hK hP 0 rfl rfl 1 (by decide) hf95 (fun _ h9 => h9) rfl dX10_keeps_3 ?_
  refine lv_bipush (v := 60) hx hb dX10_keeps_6 (by decide) ?_
  obtain ⟨v1, ev1, h⟩ := gx_let h
  have e_v1 := congrArg (fun z => Value.int z) ev1
  rw [ev1]
  refine lv_irem hx hb dX10_keeps_8 (by decide) ?_
  refine lv_imul hx hb dX10_keeps_9 ?_
  obtain ⟨v2, ev2, h⟩ := gx_let h
  refine lv_topn ev2 ?_
  refine lv_istore_n (lv' := [(1, .int v2), (0, .ref (ad 0))]) hx hb dX10_keeps_10 rfl hl (by decide) rfl (fun ls hl => ?_)
  refine lv_iconst (v := 0) hx hb dX10_keeps_11 (by decide) ?_
  refine lv_istore_n (lv' := [(2, .int (0 : Int32)), (1, .int v2), (0, .ref (ad 0))]) hx hb dX10_keeps_12 rfl hl (by decide) rfl (fun ls hl => ?_)
  have hL13 : ∀ (k : MS → Option (MS)) (hk : ∀ (w13 : MS) (H : Heap) (locs : List Loc) (ls : Array Slot), k w13 = some w' → va_P D vwCl (wM cI cZ ad w13) H → va_D A (wM cI cZ ad w13) → va_S A s.heap H locs → lv_has ls 4 [] → W p l e rX10_keeps s m ([.ref (ad 0)] : List Value).toArray below meth c H locs 0 0 Q (F0 m 74 ls [])) (n : Nat) (x2_13 : Int32) (w13 : MS) (H : Heap) (locs : List Loc) (ls : Array Slot), lp_X10_keeps_13 v2 k n x2_13 w13 = some w' → va_P D vwCl (wM cI cZ ad w13) H → va_D A (wM cI cZ ad w13) → va_S A s.heap H locs → lv_has ls 4 [(0, .ref (ad 0)), (1, .int v2), (2, .int x2_13)] → W p l e rX10_keeps s m ([.ref (ad 0)] : List Value).toArray below meth c H locs 0 0 Q (F0 m 13 ls []) := by
    intro k hk n
    induction n with
    | zero =>
      intro x2_13 w13 H locs ls h
      rw [lp_X10_keeps_13] at h
      cases h
    | succ n ih =>
      intro x2_13 w13 H locs ls h hP hD hS hl
      rw [lp_X10_keeps_13] at h
      refine lv_iload_n hx hb dX10_keeps_13 rfl (lv_at hl 2 rfl) ?_
      refine lv_bipush (v := 12) hx hb dX10_keeps_14 (by decide) ?_
      refine lv_icmp_ge (tgt := 74) hx hb dX10_keeps_16 (by decide) (fun c3 => ?_) (fun c3 => ?_)
      · replace h := gx_t c3 h
        exact hk w13 _ _ _ h hP hD hS (lv_sub hl [] rfl)
      · replace h := gx_f c3 h
        refine lv_aload_n hx hb dX10_keeps_19 rfl (lv_at hl 0 rfl) ?_
        refine va_get (D := D) (ci := 10) (v := .ref (ad 23)) (C := RX10) (T := TX10) (N := 32) hx hb hts iX10 hown hK hP 0 rfl rfl 31 (by decide) hf77 (fun _ h9 => h9) rfl dX10_keeps_20 ?_
        refine lv_iload_n hx hb dX10_keeps_23 rfl (lv_at hl 1 rfl) ?_
        refine lv_iconst (v := 5) hx hb dX10_keeps_24 (by decide) ?_
        refine lv_iload_n hx hb dX10_keeps_25 rfl (lv_at hl 2 rfl) ?_
        refine lv_imul hx hb dX10_keeps_26 ?_
        refine lv_iadd hx hb dX10_keeps_27 ?_
        refine lv_aload_n hx hb dX10_keeps_28 rfl (lv_at hl 0 rfl) ?_
        refine va_get (D := D) (ci := 10) (v := .ref (ad 11)) (C := RX10) (T := TX10) (N := 32) hx hb hts iX10 hown hK hP 0 rfl rfl 16 (by decide) hf41 (fun _ h9 => h9) rfl dX10_keeps_29 ?_
        refine lv_iload_n hx hb dX10_keeps_32 rfl (lv_at hl 2 rfl) ?_
        obtain ⟨b4, h⟩ := gx_in h
        refine va_iald (D := D) hx hb hK hP 11 0 rfl rfl b4 dX10_keeps_33 ?_
        obtain ⟨b5, h⟩ := gx_in h
        refine va_iast (D := D) hx hb hK hP hD hS 23 0 rfl rfl b5 dX10_keeps_34 (fun H locs hP hD hS => ?_)
        obtain ⟨u6, eu6, h⟩ := gx_let h
        replace hP : va_P D vwCl (wM cI cZ ad u6) H := by rw [← eu6]; exact hP
        replace hD : va_D A (wM cI cZ ad u6) := by rw [← eu6]; exact hD
        refine lv_iconst (v := 0) hx hb dX10_keeps_35 (by decide) ?_
        refine lv_istore_n (lv' := [(3, .int (0 : Int32)), (0, .ref (ad 0)), (1, .int v2), (2, .int x2_13)]) hx hb dX10_keeps_36 rfl hl (by decide) rfl (fun ls hl => ?_)
        have hL37 : ∀ (k : MS → Option (MS)) (hk : ∀ (w37 : MS) (H : Heap) (locs : List Loc) (ls : Array Slot), k w37 = some w' → va_P D vwCl (wM cI cZ ad w37) H → va_D A (wM cI cZ ad w37) → va_S A s.heap H locs → lv_has ls 4 [(0, .ref (ad 0)), (1, .int v2), (2, .int x2_13)] → W p l e rX10_keeps s m ([.ref (ad 0)] : List Value).toArray below meth c H locs 0 0 Q (F0 m 68 ls [])) (n : Nat) (x3_37 : Int32) (w37 : MS) (H : Heap) (locs : List Loc) (ls : Array Slot), lp_X10_keeps_37 v2 x2_13 k n x3_37 w37 = some w' → va_P D vwCl (wM cI cZ ad w37) H → va_D A (wM cI cZ ad w37) → va_S A s.heap H locs → lv_has ls 4 [(0, .ref (ad 0)), (1, .int v2), (2, .int x2_13), (3, .int x3_37)] → W p l e rX10_keeps s m ([.ref (ad 0)] : List Value).toArray below meth c H locs 0 0 Q (F0 m 37 ls []) := by
          intro k hk n
          induction n with
          | zero =>
            intro x3_37 w37 H locs ls h
            rw [lp_X10_keeps_37] at h
            cases h
          | succ n ih =>
            intro x3_37 w37 H locs ls h hP hD hS hl
            rw [lp_X10_keeps_37] at h
            refine lv_iload_n hx hb dX10_keeps_37 rfl (lv_at hl 3 rfl) ?_
            refine lv_iconst (v := 4) hx hb dX10_keeps_38 (by decide) ?_
            refine lv_icmp_ge (tgt := 68) hx hb dX10_keeps_39 (by decide) (fun c7 => ?_) (fun c7 => ?_)
            · replace h := gx_t c7 h
              exact hk w37 _ _ _ h hP hD hS (lv_sub hl [0, 1, 2] rfl)
            · replace h := gx_f c7 h
              refine lv_aload_n hx hb dX10_keeps_42 rfl (lv_at hl 0 rfl) ?_
              refine va_get (D := D) (ci := 10) (v := .ref (ad 23)) (C := RX10) (T := TX10) (N := 32) hx hb hts iX10 hown hK hP 0 rfl rfl 31 (by decide) hf77 (fun _ h9 => h9) rfl dX10_keeps_43 ?_
              refine lv_iload_n hx hb dX10_keeps_46 rfl (lv_at hl 1 rfl) ?_
              refine lv_iconst (v := 5) hx hb dX10_keeps_47 (by decide) ?_
              refine lv_iload_n hx hb dX10_keeps_48 rfl (lv_at hl 2 rfl) ?_
              refine lv_imul hx hb dX10_keeps_49 ?_
              refine lv_iadd hx hb dX10_keeps_50 ?_
              refine lv_iconst (v := 1) hx hb dX10_keeps_51 (by decide) ?_
              refine lv_iadd hx hb dX10_keeps_52 ?_
              refine lv_iload_n hx hb dX10_keeps_53 rfl (lv_at hl 3 rfl) ?_
              refine lv_iadd hx hb dX10_keeps_54 ?_
              refine lv_aload_n hx hb dX10_keeps_55 rfl (lv_at hl 0 rfl) ?_
              refine lv_iload_n hx hb dX10_keeps_56 rfl (lv_at hl 2 rfl) ?_
              refine lv_iload_n hx hb dX10_keeps_57 rfl (lv_at hl 3 rfl) ?_
              obtain ⟨y8, hc9, h⟩ := gx_bind h
              refine cc_iV (As := [.int x2_13, .int x3_37]) (rest := [.int (((v2 + ((5 : Int32) * x2_13)) + (1 : Int32)) + x3_37), .ref (ad 23)]) ⟨hx, hb, hml, hown, hts⟩ (k_X10_signOf l D cI cZ ad w37 x2_13 x3_37 hc9) (cwV 2 hts (gwV mw_848 mw_850 mw_19 mw_59 mw_851) rfl rfl rfl (by decide +kernel) ⟨Nat.le_of_ble_eq_true rfl, Nat.le_of_ble_eq_true rfl⟩) hK hP hD hS hA hZ (ci := 10) (q0 := 0) rfl rfl rfl hl.1 rfl (Nat.le_of_ble_eq_true rfl) dX10_keeps_58 ⟨Nat.zero_le _, Nat.zero_le _⟩ (fun H locs hP hD hS => ?_)
              obtain ⟨b10, h⟩ := gx_in h
              refine va_iast (D := D) hx hb hK hP hD hS 23 0 rfl rfl b10 dX10_keeps_61 (fun H locs hP hD hS => ?_)
              obtain ⟨u11, eu11, h⟩ := gx_let h
              replace hP : va_P D vwCl (wM cI cZ ad u11) H := by rw [← eu11]; exact hP
              replace hD : va_D A (wM cI cZ ad u11) := by rw [← eu11]; exact hD
              obtain ⟨v12, ev12, h⟩ := gx_let h
              refine lv_iinc (v := v12) (lv' := [(3, .int v12), (0, .ref (ad 0)), (1, .int v2), (2, .int x2_13)]) hx hb dX10_keeps_62 hl (k := 3) rfl (by rw [← ev12]; rfl) (by decide) rfl (fun ls hl => ?_)
              refine lv_goto (tgt := 37) hx hb dX10_keeps_65 (by decide) ?_
              exact ih v12 u11 _ _ _ h hP hD hS (lv_sub hl [1, 2, 3, 0] rfl)
        refine hL37 _ (fun w37 H locs ls h hP hD hS hl => ?_) FU (0 : Int32) u6 _ _ _ h hP hD hS (lv_sub hl [1, 2, 3, 0] rfl)
        obtain ⟨v13, ev13, h⟩ := gx_let h
        refine lv_iinc (v := v13) (lv' := [(2, .int v13), (0, .ref (ad 0)), (1, .int v2)]) hx hb dX10_keeps_68 hl (k := 2) rfl (by rw [← ev13]; rfl) (by decide) rfl (fun ls hl => ?_)
        refine lv_goto (tgt := 13) hx hb dX10_keeps_71 (by decide) ?_
        exact ih v13 w37 _ _ _ h hP hD hS (lv_sub hl [1, 2, 0] rfl)
  refine hL13 _ (fun w13 H locs ls h hP hD hS hl => ?_) FU (0 : Int32) u _ _ _ h hP hD hS (lv_sub hl [2, 1, 0] rfl)
  cases h
  exact cc_vret hx hb hr hQ hK hP hD hS dX10_keeps_74 hlocks

def rX10_patrols : Room := { frames := 0, cells := 0, slots := 0, locals := 0 }
set_option maxHeartbeats 4000000 in
set_option maxRecDepth 100000 in
theorem k_X10_patrols (l : Launch) (D : va_G) (cI cZ : ClassId) (ad : Nat → Nat) (u : MS) {w' : MS} (h : g_X10_patrols u = some w') : MV l yX10_patrols (wm yX10_patrols cX10_patrols 2 none) rX10_patrols D [(cI, .int), (cZ, .boolean)] (wM cI cZ ad u) (wM cI cZ ad w') [.ref (ad 0)] := by
  intro sz
  refine Met.ofW (cc := cX10_patrols) (maxL := 2) (ret := none) (by decide) rfl ?_
  intro p e s m args below meth c s₁ B hml hv
  obtain ⟨rfl, hsz, hP, hK, hD0, hZ⟩ := hv
  have hx := B.exec
  have hb := B.bytes
  have hr := B.returns
  have hts : ∀ w ∈ Wall, w.before _ s = true := fun w hw => atoms_spec (ws := wm yX10_patrols cX10_patrols 2 none) B.pre w (List.mem_cons_of_mem _ hw)
  have hown : s.vm.findClass RX10 = some m.cls := findClass_of_methodNamed B.named
  have hlocks := B.notSynchronized
  subst hsz
  have hD := hD0.self (sz := s.heap.size)
  generalize hAe : va_A (wM cI cZ ad u) s.heap.size = A at hD hZ ⊢
  have hA : ∀ q : Nat, s.heap.size ≤ q → A q := fun q h => by rw [← hAe]; exact Or.inr h
  have hS : va_S A s.heap s.heap [] := va_S.rf
  have hf56 := hts _ mw_894
  have hf59 := hts _ mw_895
  have hf50 := hts _ mw_892
  have hf13 := hts _ mw_878
  have hf47 := hts _ mw_891
  have hf53 := hts _ mw_893
  have hl := lv_entry ([.ref (ad 0)]) (n := 2) (Nat.le_of_ble_eq_true rfl)
  rw [lg_entry_eq]
  generalize (lg_sl ([.ref (ad 0)]) ++ List.replicate (2 - (lg_sl ([.ref (ad 0)])).length) Slot.unset).toArray = ls at hl ⊢
  replace hl : lv_has ls 2 [(0, .ref (ad 0))] := hl
  refine w_gen (fun Q hQ => ?_)
  refine lv_iconst (v := 0) hx hb dX10_patrols_0 (by decide) ?_
  refine lv_istore_n (lv' := [(1, .int (0 : Int32)), (0, .ref (ad 0))]) hx hb dX10_patrols_1 rfl hl (by decide) rfl (fun ls hl => ?_)
  have hL2 : ∀ (k : MS → Option (MS)) (hk : ∀ (w2 : MS) (H : Heap) (locs : List Loc) (ls : Array Slot), k w2 = some w' → va_P D vwCl (wM cI cZ ad w2) H → va_D A (wM cI cZ ad w2) → va_S A s.heap H locs → lv_has ls 2 [] → W p l e rX10_patrols s m ([.ref (ad 0)] : List Value).toArray below meth c H locs 0 0 Q (F0 m 97 ls [])) (n : Nat) (x1_2 : Int32) (w2 : MS) (H : Heap) (locs : List Loc) (ls : Array Slot), lp_X10_patrols_2 k n x1_2 w2 = some w' → va_P D vwCl (wM cI cZ ad w2) H → va_D A (wM cI cZ ad w2) → va_S A s.heap H locs → lv_has ls 2 [(0, .ref (ad 0)), (1, .int x1_2)] → W p l e rX10_patrols s m ([.ref (ad 0)] : List Value).toArray below meth c H locs 0 0 Q (F0 m 2 ls []) := by
    intro k hk n
    induction n with
    | zero =>
      intro x1_2 w2 H locs ls h
      rw [lp_X10_patrols_2] at h
      cases h
    | succ n ih =>
      intro x1_2 w2 H locs ls h hP hD hS hl
      rw [lp_X10_patrols_2] at h
      refine lv_iload_n hx hb dX10_patrols_2 rfl (lv_at hl 1 rfl) ?_
      refine lv_iconst (v := 3) hx hb dX10_patrols_3 (by decide) ?_
      refine lv_icmp_ge (tgt := 97) hx hb dX10_patrols_4 (by decide) (fun c1 => ?_) (fun c1 => ?_)
      · replace h := gx_t c1 h
        exact hk w2 _ _ _ h hP hD hS (lv_sub hl [] rfl)
      · replace h := gx_f c1 h
        refine lv_aload_n hx hb dX10_patrols_7 rfl (lv_at hl 0 rfl) ?_
        refine va_get (D := D) (ci := 10) (v := .ref (ad 16)) (C := RX10) (T := TX10) (N := 32) hx hb hts iX10 hown hK hP 0 rfl rfl 23 (by decide) hf56 (fun _ h9 => h9) rfl dX10_patrols_8 ?_
        refine lv_iload_n hx hb dX10_patrols_11 rfl (lv_at hl 1 rfl) ?_
        obtain ⟨b2, h⟩ := gx_in h
        refine va_iald (D := D) hx hb hK hP 16 0 rfl rfl b2 dX10_patrols_12 ?_
        refine lv_iconst (v := (-1)) hx hb dX10_patrols_13 (by decide) ?_
        obtain ⟨j91_3, ej91_3, h⟩ := gx_let h
        have hj91_3 : ∀ (w91 : MS) (H : Heap) (locs : List Loc) (ls : Array Slot), j91_3 w91 = some w' → va_P D vwCl (wM cI cZ ad w91) H → va_D A (wM cI cZ ad w91) → va_S A s.heap H locs → lv_has ls 2 [(0, .ref (ad 0)), (1, .int x1_2)] → W p l e rX10_patrols s m ([.ref (ad 0)] : List Value).toArray below meth c H locs 0 0 Q (F0 m 91 ls []) := by
          intro w91 H locs ls h hP hD hS hl
          subst ej91_3
          obtain ⟨v4, ev4, h⟩ := gx_let h
          refine lv_iinc (v := v4) (lv' := [(1, .int v4), (0, .ref (ad 0))]) hx hb dX10_patrols_91 hl (k := 1) rfl (by rw [← ev4]; rfl) (by decide) rfl (fun ls hl => ?_)
          refine lv_goto (tgt := 2) hx hb dX10_patrols_94 (by decide) ?_
          exact ih v4 w91 _ _ _ h hP hD hS (lv_sub hl [1, 0] rfl)
        refine lv_icmp_eq (tgt := 91) hx hb dX10_patrols_14 (by decide) (fun c5 => ?_) (fun c5 => ?_)
        · replace h := gx_t c5 h
          exact hj91_3 w2 _ _ _ h hP hD hS (lv_sub hl [0, 1] rfl)
        · replace h := gx_f c5 h
          refine lv_aload_n hx hb dX10_patrols_17 rfl (lv_at hl 0 rfl) ?_
          refine va_get (D := D) (ci := 10) (v := .ref (ad 17)) (C := RX10) (T := TX10) (N := 32) hx hb hts iX10 hown hK hP 0 rfl rfl 24 (by decide) hf59 (fun _ h9 => h9) rfl dX10_patrols_18 ?_
          refine lv_iload_n hx hb dX10_patrols_21 rfl (lv_at hl 1 rfl) ?_
          refine lv_dup2_11 hx hb dX10_patrols_22 rfl rfl ?_
          obtain ⟨b6, h⟩ := gx_in h
          refine va_iald (D := D) hx hb hK hP 17 0 rfl rfl b6 dX10_patrols_23 ?_
          refine lv_iconst (v := 1) hx hb dX10_patrols_24 (by decide) ?_
          refine lv_isub hx hb dX10_patrols_25 ?_
          obtain ⟨b7, h⟩ := gx_in h
          refine va_iast (D := D) hx hb hK hP hD hS 17 0 rfl rfl b7 dX10_patrols_26 (fun H locs hP hD hS => ?_)
          obtain ⟨u8, eu8, h⟩ := gx_let h
          replace hP : va_P D vwCl (wM cI cZ ad u8) H := by rw [← eu8]; exact hP
          replace hD : va_D A (wM cI cZ ad u8) := by rw [← eu8]; exact hD
          refine lv_aload_n hx hb dX10_patrols_27 rfl (lv_at hl 0 rfl) ?_
          refine va_get (D := D) (ci := 10) (v := .ref (ad 17)) (C := RX10) (T := TX10) (N := 32) hx hb hts iX10 hown hK hP 0 rfl rfl 24 (by decide) hf59 (fun _ h9 => h9) rfl dX10_patrols_28 ?_
          refine lv_iload_n hx hb dX10_patrols_31 rfl (lv_at hl 1 rfl) ?_
          obtain ⟨b9, h⟩ := gx_in h
          refine va_iald (D := D) hx hb hK hP 17 0 rfl rfl b9 dX10_patrols_32 ?_
          refine lv_if_ne (tgt := 91) hx hb dX10_patrols_33 (by decide) (fun c10 => ?_) (fun c10 => ?_)
          · replace h := gx_f c10 h
            exact hj91_3 u8 _ _ _ h hP hD hS (lv_sub hl [0, 1] rfl)
          · replace h := gx_t c10 h
            refine lv_aload_n hx hb dX10_patrols_36 rfl (lv_at hl 0 rfl) ?_
            refine va_get (D := D) (ci := 10) (v := .ref (ad 14)) (C := RX10) (T := TX10) (N := 32) hx hb hts iX10 hown hK hP 0 rfl rfl 21 (by decide) hf50 (fun _ h9 => h9) rfl dX10_patrols_37 ?_
            refine lv_aload_n hx hb dX10_patrols_40 rfl (lv_at hl 0 rfl) ?_
            refine va_get (D := D) (ci := 10) (v := .ref (ad 16)) (C := RX10) (T := TX10) (N := 32) hx hb hts iX10 hown hK hP 0 rfl rfl 23 (by decide) hf56 (fun _ h9 => h9) rfl dX10_patrols_41 ?_
            refine lv_iload_n hx hb dX10_patrols_44 rfl (lv_at hl 1 rfl) ?_
            obtain ⟨b11, h⟩ := gx_in h
            refine va_iald (D := D) hx hb hK hP 16 0 rfl rfl b11 dX10_patrols_45 ?_
            refine lv_iconst (v := 2) hx hb dX10_patrols_46 (by decide) ?_
            obtain ⟨b12, h⟩ := gx_in h
            refine va_iast (D := D) hx hb hK hP hD hS 14 0 rfl rfl b12 dX10_patrols_47 (fun H locs hP hD hS => ?_)
            obtain ⟨u13, eu13, h⟩ := gx_let h
            replace hP : va_P D vwCl (wM cI cZ ad u13) H := by rw [← eu13]; exact hP
            replace hD : va_D A (wM cI cZ ad u13) := by rw [← eu13]; exact hD
            refine lv_aload_n hx hb dX10_patrols_48 rfl (lv_at hl 0 rfl) ?_
            refine va_get (D := D) (ci := 10) (v := .ref (ad 2)) (C := RX10) (T := TX10) (N := 32) hx hb hts iX10 hown hK hP 0 rfl rfl 7 (by decide) hf13 (fun _ h9 => h9) rfl dX10_patrols_49 ?_
            refine lv_aload_n hx hb dX10_patrols_52 rfl (lv_at hl 0 rfl) ?_
            refine va_get (D := D) (ci := 10) (v := .ref (ad 13)) (C := RX10) (T := TX10) (N := 32) hx hb hts iX10 hown hK hP 0 rfl rfl 20 (by decide) hf47 (fun _ h9 => h9) rfl dX10_patrols_53 ?_
            refine lv_aload_n hx hb dX10_patrols_56 rfl (lv_at hl 0 rfl) ?_
            refine va_get (D := D) (ci := 10) (v := .ref (ad 16)) (C := RX10) (T := TX10) (N := 32) hx hb hts iX10 hown hK hP 0 rfl rfl 23 (by decide) hf56 (fun _ h9 => h9) rfl dX10_patrols_57 ?_
            refine lv_iload_n hx hb dX10_patrols_60 rfl (lv_at hl 1 rfl) ?_
            obtain ⟨b14, h⟩ := gx_in h
            refine va_iald (D := D) hx hb hK hP 16 0 rfl rfl b14 dX10_patrols_61 ?_
            obtain ⟨b15, h⟩ := gx_in h
            refine va_iald (D := D) hx hb hK hP 13 0 rfl rfl b15 dX10_patrols_62 ?_
            refine lv_iconst (v := 0) hx hb dX10_patrols_63 (by decide) ?_
            obtain ⟨b16, h⟩ := gx_in h
            refine va_zast (D := D) hx hb hK hP hD hS 2 1 rfl rfl b16 dX10_patrols_64 (fun H locs hP hD hS => ?_)
            obtain ⟨u17, eu17, h⟩ := gx_let h
            replace hP : va_P D vwCl (wM cI cZ ad u17) H := by rw [← eu17]; exact hP
            replace hD : va_D A (wM cI cZ ad u17) := by rw [← eu17]; exact hD
            refine lv_aload_n hx hb dX10_patrols_65 rfl (lv_at hl 0 rfl) ?_
            refine va_get (D := D) (ci := 10) (v := .ref (ad 15)) (C := RX10) (T := TX10) (N := 32) hx hb hts iX10 hown hK hP 0 rfl rfl 22 (by decide) hf53 (fun _ h9 => h9) rfl dX10_patrols_66 ?_
            refine lv_iload_n hx hb dX10_patrols_69 rfl (lv_at hl 1 rfl) ?_
            refine lv_aload_n hx hb dX10_patrols_70 rfl (lv_at hl 0 rfl) ?_
            refine va_get (D := D) (ci := 10) (v := .ref (ad 13)) (C := RX10) (T := TX10) (N := 32) hx hb hts iX10 hown hK hP 0 rfl rfl 20 (by decide) hf47 (fun _ h9 => h9) rfl dX10_patrols_71 ?_
            refine lv_aload_n hx hb dX10_patrols_74 rfl (lv_at hl 0 rfl) ?_
            refine va_get (D := D) (ci := 10) (v := .ref (ad 16)) (C := RX10) (T := TX10) (N := 32) hx hb hts iX10 hown hK hP 0 rfl rfl 23 (by decide) hf56 (fun _ h9 => h9) rfl dX10_patrols_75 ?_
            refine lv_iload_n hx hb dX10_patrols_78 rfl (lv_at hl 1 rfl) ?_
            obtain ⟨b18, h⟩ := gx_in h
            refine va_iald (D := D) hx hb hK hP 16 0 rfl rfl b18 dX10_patrols_79 ?_
            obtain ⟨b19, h⟩ := gx_in h
            refine va_iald (D := D) hx hb hK hP 13 0 rfl rfl b19 dX10_patrols_80 ?_
            refine lv_iconst (v := 4) hx hb dX10_patrols_81 (by decide) ?_
            refine lv_idiv hx hb dX10_patrols_82 (by decide) ?_
            obtain ⟨b20, h⟩ := gx_in h
            refine va_iast (D := D) hx hb hK hP hD hS 15 0 rfl rfl b20 dX10_patrols_83 (fun H locs hP hD hS => ?_)
            obtain ⟨u21, eu21, h⟩ := gx_let h
            replace hP : va_P D vwCl (wM cI cZ ad u21) H := by rw [← eu21]; exact hP
            replace hD : va_D A (wM cI cZ ad u21) := by rw [← eu21]; exact hD
            refine lv_aload_n hx hb dX10_patrols_84 rfl (lv_at hl 0 rfl) ?_
            refine va_get (D := D) (ci := 10) (v := .ref (ad 16)) (C := RX10) (T := TX10) (N := 32) hx hb hts iX10 hown hK hP 0 rfl rfl 23 (by decide) hf56 (fun _ h9 => h9) rfl dX10_patrols_85 ?_
            refine lv_iload_n hx hb dX10_patrols_88 rfl (lv_at hl 1 rfl) ?_
            refine lv_iconst (v := (-1)) hx hb dX10_patrols_89 (by decide) ?_
            obtain ⟨b22, h⟩ := gx_in h
            refine va_iast (D := D) hx hb hK hP hD hS 16 0 rfl rfl b22 dX10_patrols_90 (fun H locs hP hD hS => ?_)
            obtain ⟨u23, eu23, h⟩ := gx_let h
            replace hP : va_P D vwCl (wM cI cZ ad u23) H := by rw [← eu23]; exact hP
            replace hD : va_D A (wM cI cZ ad u23) := by rw [← eu23]; exact hD
            exact hj91_3 u23 _ _ _ h hP hD hS (lv_sub hl [0, 1] rfl)
  refine hL2 _ (fun w2 H locs ls h hP hD hS hl => ?_) FU (0 : Int32) u _ _ _ h hP hD hS (lv_sub hl [1, 0] rfl)
  cases h
  exact cc_vret hx hb hr hQ hK hP hD hS dX10_patrols_97 hlocks

def rX10_letsIn : Room := { frames := 4, cells := 0, slots := 0, locals := 93 }
set_option maxHeartbeats 4000000 in
set_option maxRecDepth 100000 in
theorem k_X10_letsIn (l : Launch) (D : va_G) (cI cZ : ClassId) (ad : Nat → Nat) (u : MS) (p0 : Int32) (p1 : Int32) {r : Int32} (h : g_X10_letsIn u p0 p1 = some r) : MI l yX10_letsIn (wm yX10_letsIn cX10_letsIn 3 (some .boolean)) rX10_letsIn D [(cI, .int), (cZ, .boolean)] (wM cI cZ ad u) (wM cI cZ ad u) [.ref (ad 0), .int p0, .int p1] r := by
  intro sz
  refine Met.ofW (cc := cX10_letsIn) (maxL := 3) (ret := (some .boolean)) (by decide) rfl ?_
  intro p e s m args below meth c s₁ B hml hv
  obtain ⟨rfl, hsz, hP, hK, hD0, hZ⟩ := hv
  have hx := B.exec
  have hb := B.bytes
  have hr := B.returns
  have hts : ∀ w ∈ Wall, w.before _ s = true := fun w hw => atoms_spec (ws := wm yX10_letsIn cX10_letsIn 3 (some .boolean)) B.pre w (List.mem_cons_of_mem _ hw)
  have hown : s.vm.findClass RX10 = some m.cls := findClass_of_methodNamed B.named
  have hlocks := B.notSynchronized
  subst hsz
  have hD := hD0.self (sz := s.heap.size)
  generalize hAe : va_A (wM cI cZ ad u) s.heap.size = A at hD hZ ⊢
  have hA : ∀ q : Nat, s.heap.size ≤ q → A q := fun q h => by rw [← hAe]; exact Or.inr h
  have hS : va_S A s.heap s.heap [] := va_S.rf
  have hf7 := hts _ mw_877
  have hl := lv_entry ([.ref (ad 0), .int p0, .int p1]) (n := 3) (Nat.le_of_ble_eq_true rfl)
  rw [lg_entry_eq]
  generalize (lg_sl ([.ref (ad 0), .int p0, .int p1]) ++ List.replicate (3 - (lg_sl ([.ref (ad 0), .int p0, .int p1])).length) Slot.unset).toArray = ls at hl ⊢
  replace hl : lv_has ls 3 [(0, .ref (ad 0)), (1, .int p0), (2, .int p1)] := hl
  refine w_gen (fun Q hQ => ?_)
  refine lv_iload_n hx hb dX10_letsIn_0 rfl (lv_at hl 2 rfl) ?_
  refine lv_iconst (v := 0) hx hb dX10_letsIn_1 (by decide) ?_
  refine lv_iconst (v := 3) hx hb dX10_letsIn_2 (by decide) ?_
  obtain ⟨y1, hc2, h⟩ := gx_bind h
  refine cc_iS (As := [.int p1, .int (0 : Int32), .int (3 : Int32)]) (rest := []) ⟨hx, hb, hml, hown, hts⟩ (k_X10_isIn l D cI cZ ad u p1 (0 : Int32) (3 : Int32) hc2) (va_cwS 3 hts (gwS mw_860 mw_861 mw_59 mw_862) rfl rfl rfl (by decide +kernel) ⟨Nat.le_of_ble_eq_true rfl, Nat.le_of_ble_eq_true rfl⟩) hK hP hD hS hA hZ rfl hl.1 rfl (Nat.le_of_ble_eq_true rfl) dX10_letsIn_3 ⟨Nat.zero_le _, Nat.zero_le _⟩ (fun H locs hP hD hS => ?_)
  refine lv_if_eq (tgt := 38) hx hb dX10_letsIn_6 (by decide) (fun c3 => ?_) (fun c3 => ?_)
  · replace h := gx_t c3 h
    refine lv_iconst (v := 0) hx hb dX10_letsIn_38 (by decide) ?_
    cases h
    exact cc_ret hx hb hr rfl hQ hK hP hD hS rfl dX10_letsIn_39 hlocks
  · replace h := gx_f c3 h
    refine lv_aload_n hx hb dX10_letsIn_9 rfl (lv_at hl 0 rfl) ?_
    refine lv_iload_n hx hb dX10_letsIn_10 rfl (lv_at hl 1 rfl) ?_
    refine lv_iload_n hx hb dX10_letsIn_11 rfl (lv_at hl 2 rfl) ?_
    obtain ⟨y4, hc5, h⟩ := gx_bind h
    refine cc_iV (As := [.int p0, .int p1]) (rest := []) ⟨hx, hb, hml, hown, hts⟩ (k_X10_signOf l D cI cZ ad u p0 p1 hc5) (cwV 2 hts (gwV mw_848 mw_850 mw_19 mw_59 mw_851) rfl rfl rfl (by decide +kernel) ⟨Nat.le_of_ble_eq_true rfl, Nat.le_of_ble_eq_true rfl⟩) hK hP hD hS hA hZ (ci := 10) (q0 := 0) rfl rfl rfl hl.1 rfl (Nat.le_of_ble_eq_true rfl) dX10_letsIn_12 ⟨Nat.zero_le _, Nat.zero_le _⟩ (fun H locs hP hD hS => ?_)
    refine lv_iconst (v := 2) hx hb dX10_letsIn_15 (by decide) ?_
    refine lv_icmp_eq (tgt := 38) hx hb dX10_letsIn_16 (by decide) (fun c6 => ?_) (fun c6 => ?_)
    · replace h := gx_t c6 h
      refine lv_iconst (v := 0) hx hb dX10_letsIn_38 (by decide) ?_
      cases h
      exact cc_ret hx hb hr rfl hQ hK hP hD hS rfl dX10_letsIn_39 hlocks
    · replace h := gx_f c6 h
      refine lv_aload_n hx hb dX10_letsIn_19 rfl (lv_at hl 0 rfl) ?_
      refine va_get (D := D) (ci := 10) (v := .ref (ad 1)) (C := RX10) (T := TX10) (N := 32) hx hb hts iX10 hown hK hP 0 rfl rfl 6 (by decide) hf7 (fun _ h9 => h9) rfl dX10_letsIn_20 ?_
      refine lv_iconst (v := 4) hx hb dX10_letsIn_23 (by decide) ?_
      refine lv_iload_n hx hb dX10_letsIn_24 rfl (lv_at hl 1 rfl) ?_
      refine lv_imul hx hb dX10_letsIn_25 ?_
      refine lv_iload_n hx hb dX10_letsIn_26 rfl (lv_at hl 2 rfl) ?_
      refine lv_iadd hx hb dX10_letsIn_27 ?_
      obtain ⟨b7, h⟩ := gx_in h
      refine va_iald (D := D) hx hb hK hP 1 0 rfl rfl b7 dX10_letsIn_28 ?_
      refine lv_bipush (v := 20) hx hb dX10_letsIn_29 (by decide) ?_
      refine lv_icmp_ge (tgt := 38) hx hb dX10_letsIn_31 (by decide) (fun c8 => ?_) (fun c8 => ?_)
      · replace h := gx_t c8 h
        refine lv_iconst (v := 0) hx hb dX10_letsIn_38 (by decide) ?_
        cases h
        exact cc_ret hx hb hr rfl hQ hK hP hD hS rfl dX10_letsIn_39 hlocks
      · replace h := gx_f c8 h
        refine lv_iconst (v := 1) hx hb dX10_letsIn_34 (by decide) ?_
        refine lv_goto (tgt := 39) hx hb dX10_letsIn_35 (by decide) ?_
        cases h
        exact cc_ret hx hb hr rfl hQ hK hP hD hS rfl dX10_letsIn_39 hlocks

def rX10_goesTo : Room := { frames := 5, cells := 0, slots := 0, locals := 115 }
set_option maxHeartbeats 4000000 in
set_option maxRecDepth 100000 in
theorem k_X10_goesTo (l : Launch) (D : va_G) (cI cZ : ClassId) (ad : Nat → Nat) (u : MS) (p0 : Int32) (p1 : Int32) {r : Int32} (h : g_X10_goesTo u p0 p1 = some r) : MI l yX10_goesTo (wm yX10_goesTo cX10_goesTo 5 (some .int)) rX10_goesTo D [(cI, .int), (cZ, .boolean)] (wM cI cZ ad u) (wM cI cZ ad u) [.ref (ad 0), .int p0, .int p1] r := by
  intro sz
  refine Met.ofW (cc := cX10_goesTo) (maxL := 5) (ret := (some .int)) (by decide) rfl ?_
  intro p e s m args below meth c s₁ B hml hv
  obtain ⟨rfl, hsz, hP, hK, hD0, hZ⟩ := hv
  have hx := B.exec
  have hb := B.bytes
  have hr := B.returns
  have hts : ∀ w ∈ Wall, w.before _ s = true := fun w hw => atoms_spec (ws := wm yX10_goesTo cX10_goesTo 5 (some .int)) B.pre w (List.mem_cons_of_mem _ hw)
  have hown : s.vm.findClass RX10 = some m.cls := findClass_of_methodNamed B.named
  have hlocks := B.notSynchronized
  subst hsz
  have hD := hD0.self (sz := s.heap.size)
  generalize hAe : va_A (wM cI cZ ad u) s.heap.size = A at hD hZ ⊢
  have hA : ∀ q : Nat, s.heap.size ≤ q → A q := fun q h => by rw [← hAe]; exact Or.inr h
  have hS : va_S A s.heap s.heap [] := va_S.rf
  have hl := lv_entry ([.ref (ad 0), .int p0, .int p1]) (n := 5) (Nat.le_of_ble_eq_true rfl)
  rw [lg_entry_eq]
  generalize (lg_sl ([.ref (ad 0), .int p0, .int p1]) ++ List.replicate (5 - (lg_sl ([.ref (ad 0), .int p0, .int p1])).length) Slot.unset).toArray = ls at hl ⊢
  replace hl : lv_has ls 5 [(0, .ref (ad 0)), (1, .int p0), (2, .int p1)] := hl
  refine w_gen (fun Q hQ => ?_)
  refine lv_aload_n hx hb dX10_goesTo_0 rfl (lv_at hl 0 rfl) ?_
  refine lv_iload_n hx hb dX10_goesTo_1 rfl (lv_at hl 1 rfl) ?_
  refine lv_iload_n hx hb dX10_goesTo_2 rfl (lv_at hl 2 rfl) ?_
  obtain ⟨y1, hc2, h⟩ := gx_bind h
  refine cc_iV (As := [.int p0, .int p1]) (rest := []) ⟨hx, hb, hml, hown, hts⟩ (k_X10_signOf l D cI cZ ad u p0 p1 hc2) (cwV 2 hts (gwV mw_848 mw_850 mw_19 mw_59 mw_851) rfl rfl rfl (by decide +kernel) ⟨Nat.le_of_ble_eq_true rfl, Nat.le_of_ble_eq_true rfl⟩) hK hP hD hS hA hZ (ci := 10) (q0 := 0) rfl rfl rfl hl.1 rfl (Nat.le_of_ble_eq_true rfl) dX10_goesTo_3 ⟨Nat.zero_le _, Nat.zero_le _⟩ (fun H locs hP hD hS => ?_)
  obtain ⟨j14_3, ej14_3, h⟩ := gx_let h
  have hj14_3 : ∀ (z0_14 : Int32) (H : Heap) (locs : List Loc) (ls : Array Slot), j14_3 z0_14 = some r → va_P D vwCl (wM cI cZ ad u) H → va_D A (wM cI cZ ad u) → va_S A s.heap H locs → lv_has ls 5 [(0, .ref (ad 0)), (1, .int p0), (2, .int p1)] → W p l e rX10_goesTo s m ([.ref (ad 0), .int p0, .int p1] : List Value).toArray below meth c H locs 0 0 Q (F0 m 14 ls [.int z0_14]) := by
    intro z0_14 H locs ls h hP hD hS hl
    subst ej14_3
    refine lv_istore_n (lv' := [(3, .int z0_14), (0, .ref (ad 0)), (1, .int p0), (2, .int p1)]) hx hb dX10_goesTo_14 rfl hl (by decide) rfl (fun ls hl => ?_)
    refine lv_iload_n hx hb dX10_goesTo_15 rfl (lv_at hl 2 rfl) ?_
    refine lv_iconst (v := 1) hx hb dX10_goesTo_16 (by decide) ?_
    refine lv_iadd hx hb dX10_goesTo_17 ?_
    obtain ⟨v4, ev4, h⟩ := gx_let h
    refine lv_topn ev4 ?_
    refine lv_istore (lv' := [(4, .int v4), (3, .int z0_14), (0, .ref (ad 0)), (1, .int p0), (2, .int p1)]) hx hb dX10_goesTo_18 hl (by decide) rfl (fun ls hl => ?_)
    refine lv_iload_n hx hb dX10_goesTo_20 rfl (lv_at hl 1 rfl) ?_
    obtain ⟨j36_5, ej36_5, h⟩ := gx_let h
    have hj36_5 : ∀ (H : Heap) (locs : List Loc) (ls : Array Slot), j36_5 () = some r → va_P D vwCl (wM cI cZ ad u) H → va_D A (wM cI cZ ad u) → va_S A s.heap H locs → lv_has ls 5 [(0, .ref (ad 0)), (2, .int p1), (3, .int z0_14), (4, .int v4)] → W p l e rX10_goesTo s m ([.ref (ad 0), .int p0, .int p1] : List Value).toArray below meth c H locs 0 0 Q (F0 m 36 ls []) := by
      intro  H locs ls h hP hD hS hl
      subst ej36_5
      refine lv_aload_n hx hb dX10_goesTo_36 rfl (lv_at hl 0 rfl) ?_
      refine lv_iload hx hb dX10_goesTo_37 (lv_at hl 3 rfl) ?_
      refine lv_iload_n hx hb dX10_goesTo_39 rfl (lv_at hl 1 rfl) ?_
      refine lv_iconst (v := 1) hx hb dX10_goesTo_40 (by decide) ?_
      refine lv_isub hx hb dX10_goesTo_41 ?_
      obtain ⟨y6, hc7, h⟩ := gx_bind h
      refine cc_iV (As := [.int v4, .int (p1 - (1 : Int32))]) (rest := []) ⟨hx, hb, hml, hown, hts⟩ (k_X10_letsIn l D cI cZ ad u v4 (p1 - (1 : Int32)) hc7) (cwV 2 hts (gwV mw_1000 mw_1002 mw_29 mw_59 mw_1003) rfl rfl rfl (by decide +kernel) ⟨Nat.le_of_ble_eq_true rfl, Nat.le_of_ble_eq_true rfl⟩) hK hP hD hS hA hZ (ci := 10) (q0 := 0) rfl rfl rfl hl.1 rfl (Nat.le_of_ble_eq_true rfl) dX10_goesTo_42 ⟨Nat.zero_le _, Nat.zero_le _⟩ (fun H locs hP hD hS => ?_)
      refine lv_if_eq (tgt := 54) hx hb dX10_goesTo_45 (by decide) (fun c8 => ?_) (fun c8 => ?_)
      · replace h := gx_t c8 h
        refine lv_aload_n hx hb dX10_goesTo_54 rfl (lv_at hl 0 rfl) ?_
        refine lv_iload hx hb dX10_goesTo_55 (lv_at hl 3 rfl) ?_
        refine lv_iload_n hx hb dX10_goesTo_57 rfl (lv_at hl 1 rfl) ?_
        refine lv_iconst (v := 1) hx hb dX10_goesTo_58 (by decide) ?_
        refine lv_iadd hx hb dX10_goesTo_59 ?_
        obtain ⟨y9, hc10, h⟩ := gx_bind h
        refine cc_iV (As := [.int v4, .int (p1 + (1 : Int32))]) (rest := []) ⟨hx, hb, hml, hown, hts⟩ (k_X10_letsIn l D cI cZ ad u v4 (p1 + (1 : Int32)) hc10) (cwV 2 hts (gwV mw_1000 mw_1002 mw_29 mw_59 mw_1003) rfl rfl rfl (by decide +kernel) ⟨Nat.le_of_ble_eq_true rfl, Nat.le_of_ble_eq_true rfl⟩) hK hP hD hS hA hZ (ci := 10) (q0 := 0) rfl rfl rfl hl.1 rfl (Nat.le_of_ble_eq_true rfl) dX10_goesTo_60 ⟨Nat.zero_le _, Nat.zero_le _⟩ (fun H locs hP hD hS => ?_)
        refine lv_if_eq (tgt := 72) hx hb dX10_goesTo_63 (by decide) (fun c11 => ?_) (fun c11 => ?_)
        · replace h := gx_t c11 h
          refine lv_iload_n hx hb dX10_goesTo_72 rfl (lv_at hl 2 rfl) ?_
          refine lv_if_ne (tgt := 90) hx hb dX10_goesTo_73 (by decide) (fun c12 => ?_) (fun c12 => ?_)
          · replace h := gx_f c12 h
            refine lv_iconst (v := (-1)) hx hb dX10_goesTo_90 (by decide) ?_
            cases h
            exact cc_ret hx hb hr rfl hQ hK hP hD hS rfl dX10_goesTo_91 hlocks
          · replace h := gx_t c12 h
            refine lv_aload_n hx hb dX10_goesTo_76 rfl (lv_at hl 0 rfl) ?_
            refine lv_iload hx hb dX10_goesTo_77 (lv_at hl 3 rfl) ?_
            refine lv_iload_n hx hb dX10_goesTo_79 rfl (lv_at hl 1 rfl) ?_
            obtain ⟨y13, hc14, h⟩ := gx_bind h
            refine cc_iV (As := [.int v4, .int p1]) (rest := []) ⟨hx, hb, hml, hown, hts⟩ (k_X10_letsIn l D cI cZ ad u v4 p1 hc14) (cwV 2 hts (gwV mw_1000 mw_1002 mw_29 mw_59 mw_1003) rfl rfl rfl (by decide +kernel) ⟨Nat.le_of_ble_eq_true rfl, Nat.le_of_ble_eq_true rfl⟩) hK hP hD hS hA hZ (ci := 10) (q0 := 0) rfl rfl rfl hl.1 rfl (Nat.le_of_ble_eq_true rfl) dX10_goesTo_80 ⟨Nat.zero_le _, Nat.zero_le _⟩ (fun H locs hP hD hS => ?_)
            refine lv_if_eq (tgt := 90) hx hb dX10_goesTo_83 (by decide) (fun c15 => ?_) (fun c15 => ?_)
            · replace h := gx_t c15 h
              refine lv_iconst (v := (-1)) hx hb dX10_goesTo_90 (by decide) ?_
              cases h
              exact cc_ret hx hb hr rfl hQ hK hP hD hS rfl dX10_goesTo_91 hlocks
            · replace h := gx_f c15 h
              refine lv_iload_n hx hb dX10_goesTo_86 rfl (lv_at hl 1 rfl) ?_
              refine lv_goto (tgt := 91) hx hb dX10_goesTo_87 (by decide) ?_
              cases h
              exact cc_ret hx hb hr rfl hQ hK hP hD hS rfl dX10_goesTo_91 hlocks
        · replace h := gx_f c11 h
          refine lv_iload_n hx hb dX10_goesTo_66 rfl (lv_at hl 1 rfl) ?_
          refine lv_iconst (v := 1) hx hb dX10_goesTo_67 (by decide) ?_
          refine lv_iadd hx hb dX10_goesTo_68 ?_
          refine lv_goto (tgt := 91) hx hb dX10_goesTo_69 (by decide) ?_
          cases h
          exact cc_ret hx hb hr rfl hQ hK hP hD hS rfl dX10_goesTo_91 hlocks
      · replace h := gx_f c8 h
        refine lv_iload_n hx hb dX10_goesTo_48 rfl (lv_at hl 1 rfl) ?_
        refine lv_iconst (v := 1) hx hb dX10_goesTo_49 (by decide) ?_
        refine lv_isub hx hb dX10_goesTo_50 ?_
        refine lv_goto (tgt := 91) hx hb dX10_goesTo_51 (by decide) ?_
        cases h
        exact cc_ret hx hb hr rfl hQ hK hP hD hS rfl dX10_goesTo_91 hlocks
    refine lv_if_eq (tgt := 36) hx hb dX10_goesTo_21 (by decide) (fun c16 => ?_) (fun c16 => ?_)
    · replace h := gx_t c16 h
      exact hj36_5 _ _ _ h hP hD hS (lv_sub hl [2, 4, 1, 0] rfl)
    · replace h := gx_f c16 h
      refine lv_aload_n hx hb dX10_goesTo_24 rfl (lv_at hl 2 rfl) ?_
      refine lv_iload hx hb dX10_goesTo_25 (lv_at hl 0 rfl) ?_
      refine lv_iload_n hx hb dX10_goesTo_27 rfl (lv_at hl 4 rfl) ?_
      obtain ⟨y17, hc18, h⟩ := gx_bind h
      refine cc_iV (As := [.int v4, .int p1]) (rest := []) ⟨hx, hb, hml, hown, hts⟩ (k_X10_letsIn l D cI cZ ad u v4 p1 hc18) (cwV 2 hts (gwV mw_1000 mw_1002 mw_29 mw_59 mw_1003) rfl rfl rfl (by decide +kernel) ⟨Nat.le_of_ble_eq_true rfl, Nat.le_of_ble_eq_true rfl⟩) hK hP hD hS hA hZ (ci := 10) (q0 := 0) rfl rfl rfl hl.1 rfl (Nat.le_of_ble_eq_true rfl) dX10_goesTo_28 ⟨Nat.zero_le _, Nat.zero_le _⟩ (fun H locs hP hD hS => ?_)
      refine lv_if_eq (tgt := 36) hx hb dX10_goesTo_31 (by decide) (fun c19 => ?_) (fun c19 => ?_)
      · replace h := gx_t c19 h
        exact hj36_5 _ _ _ h hP hD hS (lv_sub hl [2, 4, 1, 0] rfl)
      · replace h := gx_f c19 h
        refine lv_iload_n hx hb dX10_goesTo_34 rfl (lv_at hl 4 rfl) ?_
        cases h
        exact cc_ret hx hb hr rfl hQ hK hP hD hS rfl dX10_goesTo_35 hlocks
  refine lv_if_ne (tgt := 13) hx hb dX10_goesTo_6 (by decide) (fun c20 => ?_) (fun c20 => ?_)
  · replace h := gx_f c20 h
    refine lv_iconst (v := 0) hx hb dX10_goesTo_13 (by decide) ?_
    exact hj14_3 (0 : Int32) _ _ _ h hP hD hS (lv_sub hl [0, 1, 2] rfl)
  · replace h := gx_t c20 h
    refine lv_iconst (v := 1) hx hb dX10_goesTo_9 (by decide) ?_
    refine lv_goto (tgt := 14) hx hb dX10_goesTo_10 (by decide) ?_
    exact hj14_3 (1 : Int32) _ _ _ h hP hD hS (lv_sub hl [0, 1, 2] rfl)

def rX10_goes : Room := { frames := 6, cells := 0, slots := 0, locals := 139 }
set_option maxHeartbeats 4000000 in
set_option maxRecDepth 100000 in
theorem k_X10_goes (l : Launch) (D : va_G) (cI cZ : ClassId) (ad : Nat → Nat) (u : MS) (p0 : Int32) (p1 : Int32) {w' : MS} (h : g_X10_goes u p0 p1 = some w') : MV l yX10_goes (wm yX10_goes cX10_goes 8 none) rX10_goes D [(cI, .int), (cZ, .boolean)] (wM cI cZ ad u) (wM cI cZ ad w') [.ref (ad 0), .int p0, .int p1] := by
  intro sz
  refine Met.ofW (cc := cX10_goes) (maxL := 8) (ret := none) (by decide) rfl ?_
  intro p e s m args below meth c s₁ B hml hv
  obtain ⟨rfl, hsz, hP, hK, hD0, hZ⟩ := hv
  have hx := B.exec
  have hb := B.bytes
  have hr := B.returns
  have hts : ∀ w ∈ Wall, w.before _ s = true := fun w hw => atoms_spec (ws := wm yX10_goes cX10_goes 8 none) B.pre w (List.mem_cons_of_mem _ hw)
  have hown : s.vm.findClass RX10 = some m.cls := findClass_of_methodNamed B.named
  have hlocks := B.notSynchronized
  subst hsz
  have hD := hD0.self (sz := s.heap.size)
  generalize hAe : va_A (wM cI cZ ad u) s.heap.size = A at hD hZ ⊢
  have hA : ∀ q : Nat, s.heap.size ≤ q → A q := fun q h => by rw [← hAe]; exact Or.inr h
  have hS : va_S A s.heap s.heap [] := va_S.rf
  have hf13 := hts _ mw_878
  have hf7 := hts _ mw_877
  have hf127 := hts _ mw_876
  have hf20 := hts _ mw_880
  have hl := lv_entry ([.ref (ad 0), .int p0, .int p1]) (n := 8) (Nat.le_of_ble_eq_true rfl)
  rw [lg_entry_eq]
  generalize (lg_sl ([.ref (ad 0), .int p0, .int p1]) ++ List.replicate (8 - (lg_sl ([.ref (ad 0), .int p0, .int p1])).length) Slot.unset).toArray = ls at hl ⊢
  replace hl : lv_has ls 8 [(0, .ref (ad 0)), (1, .int p0), (2, .int p1)] := hl
  refine w_gen (fun Q hQ => ?_)
  refine lv_iconst (v := 4) hx hb dX10_goes_0 (by decide) ?_
  refine lv_iload_n hx hb dX10_goes_1 rfl (lv_at hl 1 rfl) ?_
  refine lv_imul hx hb dX10_goes_2 ?_
  refine lv_iload_n hx hb dX10_goes_3 rfl (lv_at hl 2 rfl) ?_
  refine lv_iadd hx hb dX10_goes_4 ?_
  obtain ⟨v1, ev1, h⟩ := gx_let h
  refine lv_topn ev1 ?_
  refine lv_istore_n (lv' := [(3, .int v1), (0, .ref (ad 0)), (1, .int p0), (2, .int p1)]) hx hb dX10_goes_5 rfl hl (by decide) rfl (fun ls hl => ?_)
  refine lv_aload_n hx hb dX10_goes_6 rfl (lv_at hl 1 rfl) ?_
  refine va_get (D := D) (ci := 10) (v := .ref (ad 2)) (C := RX10) (T := TX10) (N := 32) hx hb hts iX10 hown hK hP 0 rfl rfl 7 (by decide) hf13 (fun _ h9 => h9) rfl dX10_goes_7 ?_
  refine lv_iload_n hx hb dX10_goes_10 rfl (lv_at hl 0 rfl) ?_
  obtain ⟨b2, h⟩ := gx_in h
  refine va_zald (D := D) hx hb hK hP 2 1 rfl rfl b2 dX10_goes_11 ?_
  obtain ⟨j35_3, ej35_3, h⟩ := gx_let h
  have hj35_3 : ∀ (z0_35 : Int32) (H : Heap) (locs : List Loc) (ls : Array Slot), j35_3 z0_35 = some w' → va_P D vwCl (wM cI cZ ad u) H → va_D A (wM cI cZ ad u) → va_S A s.heap H locs → lv_has ls 8 [(0, .ref (ad 0)), (1, .int p0), (2, .int p1), (3, .int v1)] → W p l e rX10_goes s m ([.ref (ad 0), .int p0, .int p1] : List Value).toArray below meth c H locs 0 0 Q (F0 m 35 ls [.int z0_35]) := by
    intro z0_35 H locs ls h hP hD hS hl
    subst ej35_3
    refine lv_istore (lv' := [(4, .int z0_35), (0, .ref (ad 0)), (1, .int p0), (2, .int p1), (3, .int v1)]) hx hb dX10_goes_35 hl (by decide) rfl (fun ls hl => ?_)
    refine lv_iconst (v := 1) hx hb dX10_goes_37 (by decide) ?_
    refine lv_istore (lv' := [(5, .int (1 : Int32)), (4, .int z0_35), (0, .ref (ad 0)), (1, .int p0), (2, .int p1), (3, .int v1)]) hx hb dX10_goes_38 hl (by decide) rfl (fun ls hl => ?_)
    refine lv_iconst (v := 0) hx hb dX10_goes_40 (by decide) ?_
    refine lv_istore (lv' := [(6, .int (0 : Int32)), (5, .int (1 : Int32)), (4, .int z0_35), (0, .ref (ad 0)), (1, .int p0), (2, .int p1), (3, .int v1)]) hx hb dX10_goes_41 hl (by decide) rfl (fun ls hl => ?_)
    have hL43 : ∀ (k : MS → Option (MS)) (hk : ∀ (w43 : MS) (H : Heap) (locs : List Loc) (ls : Array Slot), k w43 = some w' → va_P D vwCl (wM cI cZ ad w43) H → va_D A (wM cI cZ ad w43) → va_S A s.heap H locs → lv_has ls 8 [] → W p l e rX10_goes s m ([.ref (ad 0), .int p0, .int p1] : List Value).toArray below meth c H locs 0 0 Q (F0 m 152 ls [])) (n : Nat) (x5_43 : Int32) (x6_43 : Int32) (w43 : MS) (H : Heap) (locs : List Loc) (ls : Array Slot), lp_X10_goes_43 p0 p1 v1 z0_35 k n x5_43 x6_43 w43 = some w' → va_P D vwCl (wM cI cZ ad w43) H → va_D A (wM cI cZ ad w43) → va_S A s.heap H locs → lv_has ls 8 [(0, .ref (ad 0)), (1, .int p0), (2, .int p1), (3, .int v1), (4, .int z0_35), (5, .int x5_43), (6, .int x6_43)] → W p l e rX10_goes s m ([.ref (ad 0), .int p0, .int p1] : List Value).toArray below meth c H locs 0 0 Q (F0 m 43 ls []) := by
      intro k hk n
      induction n with
      | zero =>
        intro x5_43 x6_43 w43 H locs ls h
        rw [lp_X10_goes_43] at h
        cases h
      | succ n ih =>
        intro x5_43 x6_43 w43 H locs ls h hP hD hS hl
        rw [lp_X10_goes_43] at h
        refine lv_iload hx hb dX10_goes_43 (lv_at hl 6 rfl) ?_
        refine lv_iload hx hb dX10_goes_45 (lv_at hl 4 rfl) ?_
        refine lv_icmp_ge (tgt := 152) hx hb dX10_goes_47 (by decide) (fun c4 => ?_) (fun c4 => ?_)
        · replace h := gx_t c4 h
          exact hk w43 _ _ _ h hP hD hS (lv_sub hl [] rfl)
        · replace h := gx_f c4 h
          refine lv_iload hx hb dX10_goes_50 (lv_at hl 5 rfl) ?_
          refine lv_if_eq (tgt := 152) hx hb dX10_goes_52 (by decide) (fun c5 => ?_) (fun c5 => ?_)
          · replace h := gx_t c5 h
            exact hk w43 _ _ _ h hP hD hS (lv_sub hl [] rfl)
          · replace h := gx_f c5 h
            refine lv_aload_n hx hb dX10_goes_55 rfl (lv_at hl 0 rfl) ?_
            refine va_get (D := D) (ci := 10) (v := .ref (ad 1)) (C := RX10) (T := TX10) (N := 32) hx hb hts iX10 hown hK hP 0 rfl rfl 6 (by decide) hf7 (fun _ h9 => h9) rfl dX10_goes_56 ?_
            refine lv_iload_n hx hb dX10_goes_59 rfl (lv_at hl 3 rfl) ?_
            obtain ⟨b6, h⟩ := gx_in h
            refine va_iald (D := D) hx hb hK hP 1 0 rfl rfl b6 dX10_goes_60 ?_
            refine lv_if_le (tgt := 152) hx hb dX10_goes_61 (by decide) (fun c7 => ?_) (fun c7 => ?_)
            · replace h := gx_t c7 h
              exact hk w43 _ _ _ h hP hD hS (lv_sub hl [] rfl)
            · replace h := gx_f c7 h
              refine lv_iload_n hx hb dX10_goes_64 rfl (lv_at hl 1 rfl) ?_
              refine lv_bipush (v := 11) hx hb dX10_goes_65 (by decide) ?_
              obtain ⟨j80_8, ej80_8, h⟩ := gx_let h
              have hj80_8 : ∀ (z0_80 : Int32) (H : Heap) (locs : List Loc) (ls : Array Slot), j80_8 z0_80 = some w' → va_P D vwCl (wM cI cZ ad w43) H → va_D A (wM cI cZ ad w43) → va_S A s.heap H locs → lv_has ls 8 [(0, .ref (ad 0)), (1, .int p0), (2, .int p1), (3, .int v1), (4, .int z0_35), (6, .int x6_43)] → W p l e rX10_goes s m ([.ref (ad 0), .int p0, .int p1] : List Value).toArray below meth c H locs 0 0 Q (F0 m 80 ls [.int z0_80]) := by
                intro z0_80 H locs ls h hP hD hS hl
                subst ej80_8
                refine lv_istore (lv' := [(7, .int z0_80), (0, .ref (ad 0)), (1, .int p0), (2, .int p1), (3, .int v1), (4, .int z0_35), (6, .int x6_43)]) hx hb dX10_goes_80 hl (by decide) rfl (fun ls hl => ?_)
                refine lv_iload hx hb dX10_goes_82 (lv_at hl 0 rfl) ?_
                refine lv_iconst (v := (-1)) hx hb dX10_goes_84 (by decide) ?_
                obtain ⟨j93_9, ej93_9, h⟩ := gx_let h
                have hj93_9 : ∀ (z0_93 : Int32) (H : Heap) (locs : List Loc) (ls : Array Slot), j93_9 z0_93 = some w' → va_P D vwCl (wM cI cZ ad w43) H → va_D A (wM cI cZ ad w43) → va_S A s.heap H locs → lv_has ls 8 [(0, .ref (ad 0)), (1, .int p0), (2, .int p1), (3, .int v1), (4, .int z0_35), (6, .int x6_43), (7, .int z0_80)] → W p l e rX10_goes s m ([.ref (ad 0), .int p0, .int p1] : List Value).toArray below meth c H locs 0 0 Q (F0 m 93 ls [.int z0_93]) := by
                  intro z0_93 H locs ls h hP hD hS hl
                  subst ej93_9
                  refine lv_istore (lv' := [(5, .int z0_93), (0, .ref (ad 0)), (1, .int p0), (2, .int p1), (3, .int v1), (4, .int z0_35), (6, .int x6_43), (7, .int z0_80)]) hx hb dX10_goes_93 hl (by decide) rfl (fun ls hl => ?_)
                  refine lv_iload hx hb dX10_goes_95 (lv_at hl 0 rfl) ?_
                  obtain ⟨j146_10, ej146_10, h⟩ := gx_let h
                  have hj146_10 : ∀ (w146 : MS) (H : Heap) (locs : List Loc) (ls : Array Slot), j146_10 w146 = some w' → va_P D vwCl (wM cI cZ ad w146) H → va_D A (wM cI cZ ad w146) → va_S A s.heap H locs → lv_has ls 8 [(0, .ref (ad 0)), (1, .int p0), (2, .int p1), (3, .int v1), (4, .int z0_35), (5, .int z0_93), (6, .int x6_43)] → W p l e rX10_goes s m ([.ref (ad 0), .int p0, .int p1] : List Value).toArray below meth c H locs 0 0 Q (F0 m 146 ls []) := by
                    intro w146 H locs ls h hP hD hS hl
                    subst ej146_10
                    obtain ⟨v11, ev11, h⟩ := gx_let h
                    refine lv_iinc (v := v11) (lv' := [(6, .int v11), (0, .ref (ad 0)), (1, .int p0), (2, .int p1), (3, .int v1), (4, .int z0_35), (5, .int z0_93)]) hx hb dX10_goes_146 hl (k := 6) rfl (by rw [← ev11]; rfl) (by decide) rfl (fun ls hl => ?_)
                    refine lv_goto (tgt := 43) hx hb dX10_goes_149 (by decide) ?_
                    exact ih z0_93 v11 w146 _ _ _ h hP hD hS (lv_sub hl [1, 2, 3, 4, 5, 6, 0] rfl)
                  refine lv_if_eq (tgt := 146) hx hb dX10_goes_97 (by decide) (fun c12 => ?_) (fun c12 => ?_)
                  · replace h := gx_t c12 h
                    exact hj146_10 w43 _ _ _ h hP hD hS (lv_sub hl [1, 2, 3, 4, 5, 0, 6] rfl)
                  · replace h := gx_f c12 h
                    refine lv_aload_n hx hb dX10_goes_100 rfl (lv_at hl 1 rfl) ?_
                    refine va_get (D := D) (ci := 10) (v := .ref (ad 1)) (C := RX10) (T := TX10) (N := 32) hx hb hts iX10 hown hK hP 0 rfl rfl 6 (by decide) hf7 (fun _ h9 => h9) rfl dX10_goes_101 ?_
                    refine lv_iload_n hx hb dX10_goes_104 rfl (lv_at hl 4 rfl) ?_
                    refine lv_dup2_11 hx hb dX10_goes_105 rfl rfl ?_
                    obtain ⟨b13, h⟩ := gx_in h
                    refine va_iald (D := D) hx hb hK hP 1 0 rfl rfl b13 dX10_goes_106 ?_
                    refine lv_iconst (v := 1) hx hb dX10_goes_107 (by decide) ?_
                    refine lv_isub hx hb dX10_goes_108 ?_
                    obtain ⟨b14, h⟩ := gx_in h
                    refine va_iast (D := D) hx hb hK hP hD hS 1 0 rfl rfl b14 dX10_goes_109 (fun H locs hP hD hS => ?_)
                    obtain ⟨u15, eu15, h⟩ := gx_let h
                    replace hP : va_P D vwCl (wM cI cZ ad u15) H := by rw [← eu15]; exact hP
                    replace hD : va_D A (wM cI cZ ad u15) := by rw [← eu15]; exact hD
                    refine lv_iload_n hx hb dX10_goes_110 rfl (lv_at hl 2 rfl) ?_
                    refine lv_bipush (v := 11) hx hb dX10_goes_111 (by decide) ?_
                    refine lv_icmp_ne (tgt := 129) hx hb dX10_goes_113 (by decide) (fun c16 => ?_) (fun c16 => ?_)
                    · replace h := gx_f c16 h
                      refine lv_aload_n hx hb dX10_goes_129 rfl (lv_at hl 1 rfl) ?_
                      refine va_get (D := D) (ci := 10) (v := .ref (ad 1)) (C := RX10) (T := TX10) (N := 32) hx hb hts iX10 hown hK hP 0 rfl rfl 6 (by decide) hf7 (fun _ h9 => h9) rfl dX10_goes_130 ?_
                      refine lv_iconst (v := 4) hx hb dX10_goes_133 (by decide) ?_
                      refine lv_iload_n hx hb dX10_goes_134 rfl (lv_at hl 2 rfl) ?_
                      refine lv_imul hx hb dX10_goes_135 ?_
                      refine lv_iconst (v := 4) hx hb dX10_goes_136 (by decide) ?_
                      refine lv_iadd hx hb dX10_goes_137 ?_
                      refine lv_iload hx hb dX10_goes_138 (lv_at hl 7 rfl) ?_
                      refine lv_iadd hx hb dX10_goes_140 ?_
                      refine lv_dup2_11 hx hb dX10_goes_141 rfl rfl ?_
                      obtain ⟨b17, h⟩ := gx_in h
                      refine va_iald (D := D) hx hb hK hP 1 0 rfl rfl b17 dX10_goes_142 ?_
                      refine lv_iconst (v := 1) hx hb dX10_goes_143 (by decide) ?_
                      refine lv_iadd hx hb dX10_goes_144 ?_
                      obtain ⟨b18, h⟩ := gx_in h
                      refine va_iast (D := D) hx hb hK hP hD hS 1 0 rfl rfl b18 dX10_goes_145 (fun H locs hP hD hS => ?_)
                      obtain ⟨u19, eu19, h⟩ := gx_let h
                      replace hP : va_P D vwCl (wM cI cZ ad u19) H := by rw [← eu19]; exact hP
                      replace hD : va_D A (wM cI cZ ad u19) := by rw [← eu19]; exact hD
                      exact hj146_10 u19 _ _ _ h hP hD hS (lv_sub hl [1, 2, 3, 4, 5, 0, 6] rfl)
                    · replace h := gx_t c16 h
                      refine lv_aload_n hx hb dX10_goes_116 rfl (lv_at hl 1 rfl) ?_
                      refine lv_dup hx hb dX10_goes_117 rfl ?_
                      refine va_get (D := D) (ci := 10) (v := .int (mT_gone u15)) (C := RX10) (T := TX10) (N := 32) hx hb hts iX10 hown hK hP 0 rfl rfl 5 (by decide) hf127 (fun _ h9 => h9) rfl dX10_goes_118 ?_
                      refine lv_iconst (v := 1) hx hb dX10_goes_121 (by decide) ?_
                      refine lv_iadd hx hb dX10_goes_122 ?_
                      refine va_put (D := D) (ci := 10) (v := .int ((mT_gone u15) + (1 : Int32))) (ty := .int) (C := RX10) (T := TX10) (N := 32) hx hb hts iX10 tyX10 tyX10_ok nmX10 hown hK hP hD hS 0 rfl rfl 5 (by decide) hf127 (fun _ h9 => h9) rfl (by decide +kernel) rfl rfl (Nat.le_of_ble_eq_true rfl) dX10_goes_123 (fun H locs hP hD hS => ?_)
                      obtain ⟨u20, eu20, h⟩ := gx_let h
                      replace hP : va_P D vwCl (wM cI cZ ad u20) H := by rw [← eu20]; exact hP
                      replace hD : va_D A (wM cI cZ ad u20) := by rw [← eu20]; exact hD
                      refine lv_goto (tgt := 146) hx hb dX10_goes_126 (by decide) ?_
                      exact hj146_10 u20 _ _ _ h hP hD hS (lv_sub hl [1, 2, 3, 4, 5, 0, 6] rfl)
                refine lv_icmp_eq (tgt := 92) hx hb dX10_goes_85 (by decide) (fun c21 => ?_) (fun c21 => ?_)
                · replace h := gx_t c21 h
                  refine lv_iconst (v := 0) hx hb dX10_goes_92 (by decide) ?_
                  exact hj93_9 (0 : Int32) _ _ _ h hP hD hS (lv_sub hl [1, 2, 3, 4, 5, 6, 0] rfl)
                · replace h := gx_f c21 h
                  refine lv_iconst (v := 1) hx hb dX10_goes_88 (by decide) ?_
                  refine lv_goto (tgt := 93) hx hb dX10_goes_89 (by decide) ?_
                  exact hj93_9 (1 : Int32) _ _ _ h hP hD hS (lv_sub hl [1, 2, 3, 4, 5, 6, 0] rfl)
              refine lv_icmp_ne (tgt := 74) hx hb dX10_goes_67 (by decide) (fun c22 => ?_) (fun c22 => ?_)
              · replace h := gx_f c22 h
                refine lv_aload_n hx hb dX10_goes_74 rfl (lv_at hl 0 rfl) ?_
                refine lv_iload_n hx hb dX10_goes_75 rfl (lv_at hl 1 rfl) ?_
                refine lv_iload_n hx hb dX10_goes_76 rfl (lv_at hl 2 rfl) ?_
                obtain ⟨y23, hc24, h⟩ := gx_bind h
                refine cc_iV (As := [.int p0, .int p1]) (rest := []) ⟨hx, hb, hml, hown, hts⟩ (k_X10_goesTo l D cI cZ ad w43 p0 p1 hc24) (cwV 2 hts (gwV mw_996 mw_998 mw_28 mw_59 mw_999) rfl rfl rfl (by decide +kernel) ⟨Nat.le_of_ble_eq_true rfl, Nat.le_of_ble_eq_true rfl⟩) hK hP hD hS hA hZ (ci := 10) (q0 := 0) rfl rfl rfl hl.1 rfl (Nat.le_of_ble_eq_true rfl) dX10_goes_77 ⟨Nat.zero_le _, Nat.zero_le _⟩ (fun H locs hP hD hS => ?_)
                exact hj80_8 y23 _ _ _ h hP hD hS (lv_sub hl [0, 1, 2, 3, 4, 6] rfl)
              · replace h := gx_t c22 h
                refine lv_iload_n hx hb dX10_goes_70 rfl (lv_at hl 2 rfl) ?_
                refine lv_goto (tgt := 80) hx hb dX10_goes_71 (by decide) ?_
                exact hj80_8 p1 _ _ _ h hP hD hS (lv_sub hl [0, 1, 2, 3, 4, 6] rfl)
    refine hL43 _ (fun w43 H locs ls h hP hD hS hl => ?_) FU (1 : Int32) (0 : Int32) u _ _ _ h hP hD hS (lv_sub hl [3, 4, 5, 6, 2, 1, 0] rfl)
    cases h
    exact cc_vret hx hb hr hQ hK hP hD hS dX10_goes_152 hlocks
  refine lv_if_eq (tgt := 19) hx hb dX10_goes_12 (by decide) (fun c25 => ?_) (fun c25 => ?_)
  · replace h := gx_t c25 h
    refine lv_aload_n hx hb dX10_goes_19 rfl (lv_at hl 1 rfl) ?_
    refine va_get (D := D) (ci := 10) (v := .ref (ad 4)) (C := RX10) (T := TX10) (N := 32) hx hb hts iX10 hown hK hP 0 rfl rfl 9 (by decide) hf20 (fun _ h9 => h9) rfl dX10_goes_20 ?_
    refine lv_iload_n hx hb dX10_goes_23 rfl (lv_at hl 2 rfl) ?_
    obtain ⟨b26, h⟩ := gx_in h
    refine va_zald (D := D) hx hb hK hP 4 1 rfl rfl b26 dX10_goes_24 ?_
    refine lv_if_eq (tgt := 33) hx hb dX10_goes_25 (by decide) (fun c27 => ?_) (fun c27 => ?_)
    · replace h := gx_t c27 h
      refine lv_bipush (v := 8) hx hb dX10_goes_33 (by decide) ?_
      exact hj35_3 (8 : Int32) _ _ _ h hP hD hS (lv_sub hl [1, 2, 3, 0] rfl)
    · replace h := gx_f c27 h
      refine lv_bipush (v := 6) hx hb dX10_goes_28 (by decide) ?_
      refine lv_goto (tgt := 35) hx hb dX10_goes_30 (by decide) ?_
      exact hj35_3 (6 : Int32) _ _ _ h hP hD hS (lv_sub hl [1, 2, 3, 0] rfl)
  · replace h := gx_f c25 h
    refine lv_iconst (v := 0) hx hb dX10_goes_15 (by decide) ?_
    refine lv_goto (tgt := 35) hx hb dX10_goes_16 (by decide) ?_
    exact hj35_3 (0 : Int32) _ _ _ h hP hD hS (lv_sub hl [1, 2, 3, 0] rfl)

def rX10_comes : Room := { frames := 5, cells := 0, slots := 0, locals := 115 }
set_option maxHeartbeats 4000000 in
set_option maxRecDepth 100000 in
theorem k_X10_comes (l : Launch) (D : va_G) (cI cZ : ClassId) (ad : Nat → Nat) (u : MS) {w' : MS} (h : g_X10_comes u = some w') : MV l yX10_comes (wm yX10_comes cX10_comes 4 none) rX10_comes D [(cI, .int), (cZ, .boolean)] (wM cI cZ ad u) (wM cI cZ ad w') [.ref (ad 0)] := by
  intro sz
  refine Met.ofW (cc := cX10_comes) (maxL := 4) (ret := none) (by decide) rfl ?_
  intro p e s m args below meth c s₁ B hml hv
  obtain ⟨rfl, hsz, hP, hK, hD0, hZ⟩ := hv
  have hx := B.exec
  have hb := B.bytes
  have hr := B.returns
  have hts : ∀ w ∈ Wall, w.before _ s = true := fun w hw => atoms_spec (ws := wm yX10_comes cX10_comes 4 none) B.pre w (List.mem_cons_of_mem _ hw)
  have hown : s.vm.findClass RX10 = some m.cls := findClass_of_methodNamed B.named
  have hlocks := B.notSynchronized
  subst hsz
  have hD := hD0.self (sz := s.heap.size)
  generalize hAe : va_A (wM cI cZ ad u) s.heap.size = A at hD hZ ⊢
  have hA : ∀ q : Nat, s.heap.size ≤ q → A q := fun q h => by rw [← hAe]; exact Or.inr h
  have hS : va_S A s.heap s.heap [] := va_S.rf
  have hf130 := hts _ mw_874
  have hf133 := hts _ mw_873
  have hf136 := hts _ mw_875
  have hf7 := hts _ mw_877
  have hl := lv_entry ([.ref (ad 0)]) (n := 4) (Nat.le_of_ble_eq_true rfl)
  rw [lg_entry_eq]
  generalize (lg_sl ([.ref (ad 0)]) ++ List.replicate (4 - (lg_sl ([.ref (ad 0)])).length) Slot.unset).toArray = ls at hl ⊢
  replace hl : lv_has ls 4 [(0, .ref (ad 0))] := hl
  refine w_gen (fun Q hQ => ?_)
  refine lv_aload_n hx hb dX10_comes_0 rfl (lv_at hl 0 rfl) ?_
  refine lv_dup hx hb dX10_comes_1 rfl ?_
  refine va_get (D := D) (ci := 10) (v := .int (mT_came u)) (C := RX10) (T := TX10) (N := 32) hx hb hts iX10 hown hK hP 0 rfl rfl 3 (by decide) hf130 (fun _ h9 => h9) rfl dX10_comes_2 ?_
  refine lv_aload_n hx hb dX10_comes_5 rfl (lv_at hl 0 rfl) ?_
  refine va_get (D := D) (ci := 10) (v := .int (mT_demand u)) (C := RX10) (T := TX10) (N := 32) hx hb hts iX10 hown hK hP 0 rfl rfl 2 (by decide) hf133 (fun _ h9 => h9) rfl dX10_comes_6 ?_
  refine lv_iadd hx hb dX10_comes_9 ?_
  refine va_put (D := D) (ci := 10) (v := .int ((mT_came u) + (mT_demand u))) (ty := .int) (C := RX10) (T := TX10) (N := 32) hx hb hts iX10 tyX10 tyX10_ok nmX10 hown hK hP hD hS 0 rfl rfl 3 (by decide) hf130 (fun _ h9 => h9) rfl (by decide +kernel) rfl rfl (Nat.le_of_ble_eq_true rfl) dX10_comes_10 (fun H locs hP hD hS => ?_)
  obtain ⟨u1, eu1, h⟩ := gx_let h
  replace hP : va_P D vwCl (wM cI cZ ad u1) H := by rw [← eu1]; exact hP
  replace hD : va_D A (wM cI cZ ad u1) := by rw [← eu1]; exact hD
  refine lv_aload_n hx hb dX10_comes_13 rfl (lv_at hl 0 rfl) ?_
  refine lv_dup hx hb dX10_comes_14 rfl ?_
  refine va_get (D := D) (ci := 10) (v := .int (mT_waiting u1)) (C := RX10) (T := TX10) (N := 32) hx hb hts iX10 hown hK hP 0 rfl rfl 4 (by decide) hf136 (fun _ h9 => h9) rfl dX10_comes_15 ?_
  refine lv_aload_n hx hb dX10_comes_18 rfl (lv_at hl 0 rfl) ?_
  refine va_get (D := D) (ci := 10) (v := .int (mT_demand u1)) (C := RX10) (T := TX10) (N := 32) hx hb hts iX10 hown hK hP 0 rfl rfl 2 (by decide) hf133 (fun _ h9 => h9) rfl dX10_comes_19 ?_
  refine lv_iadd hx hb dX10_comes_22 ?_
  refine va_put (D := D) (ci := 10) (v := .int ((mT_waiting u1) + (mT_demand u1))) (ty := .int) (C := RX10) (T := TX10) (N := 32) hx hb hts iX10 tyX10 tyX10_ok nmX10 hown hK hP hD hS 0 rfl rfl 4 (by decide) hf136 (fun _ h9 => h9) rfl (by decide +kernel) rfl rfl (Nat.le_of_ble_eq_true rfl) dX10_comes_23 (fun H locs hP hD hS => ?_)
  obtain ⟨u2, eu2, h⟩ := gx_let h
  replace hP : va_P D vwCl (wM cI cZ ad u2) H := by rw [← eu2]; exact hP
  replace hD : va_D A (wM cI cZ ad u2) := by rw [← eu2]; exact hD
  refine lv_iconst (v := 1) hx hb dX10_comes_26 (by decide) ?_
  refine lv_istore_n (lv' := [(1, .int (1 : Int32)), (0, .ref (ad 0))]) hx hb dX10_comes_27 rfl hl (by decide) rfl (fun ls hl => ?_)
  have hL28 : ∀ (k : MS → Option (MS)) (hk : ∀ (w28 : MS) (H : Heap) (locs : List Loc) (ls : Array Slot), k w28 = some w' → va_P D vwCl (wM cI cZ ad w28) H → va_D A (wM cI cZ ad w28) → va_S A s.heap H locs → lv_has ls 4 [] → W p l e rX10_comes s m ([.ref (ad 0)] : List Value).toArray below meth c H locs 0 0 Q (F0 m 127 ls [])) (n : Nat) (x1_28 : Int32) (w28 : MS) (H : Heap) (locs : List Loc) (ls : Array Slot), lp_X10_comes_28 k n x1_28 w28 = some w' → va_P D vwCl (wM cI cZ ad w28) H → va_D A (wM cI cZ ad w28) → va_S A s.heap H locs → lv_has ls 4 [(0, .ref (ad 0)), (1, .int x1_28)] → W p l e rX10_comes s m ([.ref (ad 0)] : List Value).toArray below meth c H locs 0 0 Q (F0 m 28 ls []) := by
    intro k hk n
    induction n with
    | zero =>
      intro x1_28 w28 H locs ls h
      rw [lp_X10_comes_28] at h
      cases h
    | succ n ih =>
      intro x1_28 w28 H locs ls h hP hD hS hl
      rw [lp_X10_comes_28] at h
      refine lv_aload_n hx hb dX10_comes_28 rfl (lv_at hl 0 rfl) ?_
      refine va_get (D := D) (ci := 10) (v := .int (mT_waiting w28)) (C := RX10) (T := TX10) (N := 32) hx hb hts iX10 hown hK hP 0 rfl rfl 4 (by decide) hf136 (fun _ h9 => h9) rfl dX10_comes_29 ?_
      refine lv_if_le (tgt := 127) hx hb dX10_comes_32 (by decide) (fun c3 => ?_) (fun c3 => ?_)
      · replace h := gx_t c3 h
        exact hk w28 _ _ _ h hP hD hS (lv_sub hl [] rfl)
      · replace h := gx_f c3 h
        refine lv_iload_n hx hb dX10_comes_35 rfl (lv_at hl 1 rfl) ?_
        refine lv_if_eq (tgt := 127) hx hb dX10_comes_36 (by decide) (fun c4 => ?_) (fun c4 => ?_)
        · replace h := gx_t c4 h
          exact hk w28 _ _ _ h hP hD hS (lv_sub hl [] rfl)
        · replace h := gx_f c4 h
          refine lv_iconst (v := (-1)) hx hb dX10_comes_39 (by decide) ?_
          refine lv_istore_n (lv' := [(2, .int (-1 : Int32)), (0, .ref (ad 0)), (1, .int x1_28)]) hx hb dX10_comes_40 rfl hl (by decide) rfl (fun ls hl => ?_)
          refine lv_iconst (v := 0) hx hb dX10_comes_41 (by decide) ?_
          refine lv_istore_n (lv' := [(3, .int (0 : Int32)), (2, .int (-1 : Int32)), (0, .ref (ad 0)), (1, .int x1_28)]) hx hb dX10_comes_42 rfl hl (by decide) rfl (fun ls hl => ?_)
          have hL43 : ∀ (k : Int32 → Option (MS)) (hk : ∀ (x2_43 : Int32) (H : Heap) (locs : List Loc) (ls : Array Slot), k x2_43 = some w' → va_P D vwCl (wM cI cZ ad w28) H → va_D A (wM cI cZ ad w28) → va_S A s.heap H locs → lv_has ls 4 [(0, .ref (ad 0)), (2, .int x2_43)] → W p l e rX10_comes s m ([.ref (ad 0)] : List Value).toArray below meth c H locs 0 0 Q (F0 m 89 ls [])) (n : Nat) (x2_43 : Int32) (x3_43 : Int32) (H : Heap) (locs : List Loc) (ls : Array Slot), lp_X10_comes_43 w28 k n x2_43 x3_43 = some w' → va_P D vwCl (wM cI cZ ad w28) H → va_D A (wM cI cZ ad w28) → va_S A s.heap H locs → lv_has ls 4 [(0, .ref (ad 0)), (2, .int x2_43), (3, .int x3_43)] → W p l e rX10_comes s m ([.ref (ad 0)] : List Value).toArray below meth c H locs 0 0 Q (F0 m 43 ls []) := by
            intro k hk n
            induction n with
            | zero =>
              intro x2_43 x3_43 H locs ls h
              rw [lp_X10_comes_43] at h
              cases h
            | succ n ih =>
              intro x2_43 x3_43 H locs ls h hP hD hS hl
              rw [lp_X10_comes_43] at h
              refine lv_iload_n hx hb dX10_comes_43 rfl (lv_at hl 2 rfl) ?_
              refine lv_iconst (v := 4) hx hb dX10_comes_44 (by decide) ?_
              refine lv_icmp_ge (tgt := 89) hx hb dX10_comes_45 (by decide) (fun c5 => ?_) (fun c5 => ?_)
              · replace h := gx_t c5 h
                exact hk x2_43 _ _ _ h hP hD hS (lv_sub hl [0, 1] rfl)
              · replace h := gx_f c5 h
                refine lv_aload_n hx hb dX10_comes_48 rfl (lv_at hl 0 rfl) ?_
                refine lv_iconst (v := 0) hx hb dX10_comes_49 (by decide) ?_
                refine lv_iload_n hx hb dX10_comes_50 rfl (lv_at hl 2 rfl) ?_
                obtain ⟨y6, hc7, h⟩ := gx_bind h
                refine cc_iV (As := [.int (0 : Int32), .int x3_43]) (rest := []) ⟨hx, hb, hml, hown, hts⟩ (k_X10_letsIn l D cI cZ ad w28 (0 : Int32) x3_43 hc7) (cwV 2 hts (gwV mw_1000 mw_1002 mw_29 mw_59 mw_1003) rfl rfl rfl (by decide +kernel) ⟨Nat.le_of_ble_eq_true rfl, Nat.le_of_ble_eq_true rfl⟩) hK hP hD hS hA hZ (ci := 10) (q0 := 0) rfl rfl rfl hl.1 rfl (Nat.le_of_ble_eq_true rfl) dX10_comes_51 ⟨Nat.zero_le _, Nat.zero_le _⟩ (fun H locs hP hD hS => ?_)
                obtain ⟨j82_8, ej82_8, h⟩ := gx_let h
                have hj82_8 : ∀ (z0_82 : Int32) (H : Heap) (locs : List Loc) (ls : Array Slot), j82_8 z0_82 = some w' → va_P D vwCl (wM cI cZ ad w28) H → va_D A (wM cI cZ ad w28) → va_S A s.heap H locs → lv_has ls 4 [(0, .ref (ad 0)), (3, .int x3_43)] → W p l e rX10_comes s m ([.ref (ad 0)] : List Value).toArray below meth c H locs 0 0 Q (F0 m 82 ls [.int z0_82]) := by
                  intro z0_82 H locs ls h hP hD hS hl
                  subst ej82_8
                  refine lv_istore_n (lv' := [(2, .int z0_82), (0, .ref (ad 0)), (3, .int x3_43)]) hx hb dX10_comes_82 rfl hl (by decide) rfl (fun ls hl => ?_)
                  obtain ⟨v9, ev9, h⟩ := gx_let h
                  refine lv_iinc (v := v9) (lv' := [(3, .int v9), (2, .int z0_82), (0, .ref (ad 0))]) hx hb dX10_comes_83 hl (k := 2) rfl (by rw [← ev9]; rfl) (by decide) rfl (fun ls hl => ?_)
                  refine lv_goto (tgt := 43) hx hb dX10_comes_86 (by decide) ?_
                  exact ih z0_82 v9 _ _ _ h hP hD hS (lv_sub hl [2, 1, 0] rfl)
                obtain ⟨j81_10, ej81_10, h⟩ := gx_let h
                have hj81_10 : ∀ (H : Heap) (locs : List Loc) (ls : Array Slot), j81_10 () = some w' → va_P D vwCl (wM cI cZ ad w28) H → va_D A (wM cI cZ ad w28) → va_S A s.heap H locs → lv_has ls 4 [(0, .ref (ad 0)), (2, .int x2_43), (3, .int x3_43)] → W p l e rX10_comes s m ([.ref (ad 0)] : List Value).toArray below meth c H locs 0 0 Q (F0 m 81 ls []) := by
                  intro  H locs ls h hP hD hS hl
                  subst ej81_10
                  refine lv_iload_n hx hb dX10_comes_81 rfl (lv_at hl 1 rfl) ?_
                  exact hj82_8 x2_43 _ _ _ h hP hD hS (lv_sub hl [0, 2] rfl)
                refine lv_if_eq (tgt := 81) hx hb dX10_comes_54 (by decide) (fun c11 => ?_) (fun c11 => ?_)
                · replace h := gx_t c11 h
                  exact hj81_10 _ _ _ h hP hD hS (lv_sub hl [0, 1, 2] rfl)
                · replace h := gx_f c11 h
                  refine lv_iload_n hx hb dX10_comes_57 rfl (lv_at hl 1 rfl) ?_
                  refine lv_iconst (v := (-1)) hx hb dX10_comes_58 (by decide) ?_
                  obtain ⟨j77_12, ej77_12, h⟩ := gx_let h
                  have hj77_12 : ∀ (H : Heap) (locs : List Loc) (ls : Array Slot), j77_12 () = some w' → va_P D vwCl (wM cI cZ ad w28) H → va_D A (wM cI cZ ad w28) → va_S A s.heap H locs → lv_has ls 4 [(0, .ref (ad 0)), (3, .int x3_43)] → W p l e rX10_comes s m ([.ref (ad 0)] : List Value).toArray below meth c H locs 0 0 Q (F0 m 77 ls []) := by
                    intro  H locs ls h hP hD hS hl
                    subst ej77_12
                    refine lv_iload_n hx hb dX10_comes_77 rfl (lv_at hl 1 rfl) ?_
                    refine lv_goto (tgt := 82) hx hb dX10_comes_78 (by decide) ?_
                    exact hj82_8 x3_43 _ _ _ h hP hD hS (lv_sub hl [0, 1] rfl)
                  refine lv_icmp_eq (tgt := 77) hx hb dX10_comes_59 (by decide) (fun c13 => ?_) (fun c13 => ?_)
                  · replace h := gx_t c13 h
                    exact hj77_12 _ _ _ h hP hD hS (lv_sub hl [0, 2] rfl)
                  · replace h := gx_f c13 h
                    refine lv_aload_n hx hb dX10_comes_62 rfl (lv_at hl 0 rfl) ?_
                    refine va_get (D := D) (ci := 10) (v := .ref (ad 1)) (C := RX10) (T := TX10) (N := 32) hx hb hts iX10 hown hK hP 0 rfl rfl 6 (by decide) hf7 (fun _ h9 => h9) rfl dX10_comes_63 ?_
                    refine lv_iload_n hx hb dX10_comes_66 rfl (lv_at hl 2 rfl) ?_
                    obtain ⟨b14, h⟩ := gx_in h
                    refine va_iald (D := D) hx hb hK hP 1 0 rfl rfl b14 dX10_comes_67 ?_
                    refine lv_aload_n hx hb dX10_comes_68 rfl (lv_at hl 0 rfl) ?_
                    refine va_get (D := D) (ci := 10) (v := .ref (ad 1)) (C := RX10) (T := TX10) (N := 32) hx hb hts iX10 hown hK hP 0 rfl rfl 6 (by decide) hf7 (fun _ h9 => h9) rfl dX10_comes_69 ?_
                    refine lv_iload_n hx hb dX10_comes_72 rfl (lv_at hl 1 rfl) ?_
                    obtain ⟨b15, h⟩ := gx_in h
                    refine va_iald (D := D) hx hb hK hP 1 0 rfl rfl b15 dX10_comes_73 ?_
                    refine lv_icmp_ge (tgt := 81) hx hb dX10_comes_74 (by decide) (fun c16 => ?_) (fun c16 => ?_)
                    · replace h := gx_t c16 h
                      exact hj81_10 _ _ _ h hP hD hS (lv_sub hl [0, 1, 2] rfl)
                    · replace h := gx_f c16 h
                      exact hj77_12 _ _ _ h hP hD hS (lv_sub hl [0, 2] rfl)
          refine hL43 _ (fun x2_43 H locs ls h hP hD hS hl => ?_) FU (-1 : Int32) (0 : Int32) _ _ _ h hP hD hS (lv_sub hl [2, 1, 0] rfl)
          refine lv_iload_n hx hb dX10_comes_89 rfl (lv_at hl 1 rfl) ?_
          refine lv_iconst (v := (-1)) hx hb dX10_comes_90 (by decide) ?_
          obtain ⟨j99_17, ej99_17, h⟩ := gx_let h
          have hj99_17 : ∀ (z0_99 : Int32) (H : Heap) (locs : List Loc) (ls : Array Slot), j99_17 z0_99 = some w' → va_P D vwCl (wM cI cZ ad w28) H → va_D A (wM cI cZ ad w28) → va_S A s.heap H locs → lv_has ls 4 [(0, .ref (ad 0)), (2, .int x2_43)] → W p l e rX10_comes s m ([.ref (ad 0)] : List Value).toArray below meth c H locs 0 0 Q (F0 m 99 ls [.int z0_99]) := by
            intro z0_99 H locs ls h hP hD hS hl
            subst ej99_17
            refine lv_istore_n (lv' := [(1, .int z0_99), (0, .ref (ad 0)), (2, .int x2_43)]) hx hb dX10_comes_99 rfl hl (by decide) rfl (fun ls hl => ?_)
            refine lv_iload_n hx hb dX10_comes_100 rfl (lv_at hl 0 rfl) ?_
            obtain ⟨j124_18, ej124_18, h⟩ := gx_let h
            have hj124_18 : ∀ (w124 : MS) (H : Heap) (locs : List Loc) (ls : Array Slot), j124_18 w124 = some w' → va_P D vwCl (wM cI cZ ad w124) H → va_D A (wM cI cZ ad w124) → va_S A s.heap H locs → lv_has ls 4 [(0, .ref (ad 0)), (1, .int z0_99)] → W p l e rX10_comes s m ([.ref (ad 0)] : List Value).toArray below meth c H locs 0 0 Q (F0 m 124 ls []) := by
              intro w124 H locs ls h hP hD hS hl
              subst ej124_18
              refine lv_goto (tgt := 28) hx hb dX10_comes_124 (by decide) ?_
              exact ih z0_99 w124 _ _ _ h hP hD hS (lv_sub hl [0, 1] rfl)
            refine lv_if_eq (tgt := 124) hx hb dX10_comes_101 (by decide) (fun c19 => ?_) (fun c19 => ?_)
            · replace h := gx_t c19 h
              exact hj124_18 w28 _ _ _ h hP hD hS (lv_sub hl [1, 0] rfl)
            · replace h := gx_f c19 h
              refine lv_aload_n hx hb dX10_comes_104 rfl (lv_at hl 1 rfl) ?_
              refine va_get (D := D) (ci := 10) (v := .ref (ad 1)) (C := RX10) (T := TX10) (N := 32) hx hb hts iX10 hown hK hP 0 rfl rfl 6 (by decide) hf7 (fun _ h9 => h9) rfl dX10_comes_105 ?_
              refine lv_iload_n hx hb dX10_comes_108 rfl (lv_at hl 2 rfl) ?_
              refine lv_dup2_11 hx hb dX10_comes_109 rfl rfl ?_
              obtain ⟨b20, h⟩ := gx_in h
              refine va_iald (D := D) hx hb hK hP 1 0 rfl rfl b20 dX10_comes_110 ?_
              refine lv_iconst (v := 1) hx hb dX10_comes_111 (by decide) ?_
              refine lv_iadd hx hb dX10_comes_112 ?_
              obtain ⟨b21, h⟩ := gx_in h
              refine va_iast (D := D) hx hb hK hP hD hS 1 0 rfl rfl b21 dX10_comes_113 (fun H locs hP hD hS => ?_)
              obtain ⟨u22, eu22, h⟩ := gx_let h
              replace hP : va_P D vwCl (wM cI cZ ad u22) H := by rw [← eu22]; exact hP
              replace hD : va_D A (wM cI cZ ad u22) := by rw [← eu22]; exact hD
              refine lv_aload_n hx hb dX10_comes_114 rfl (lv_at hl 1 rfl) ?_
              refine lv_dup hx hb dX10_comes_115 rfl ?_
              refine va_get (D := D) (ci := 10) (v := .int (mT_waiting u22)) (C := RX10) (T := TX10) (N := 32) hx hb hts iX10 hown hK hP 0 rfl rfl 4 (by decide) hf136 (fun _ h9 => h9) rfl dX10_comes_116 ?_
              refine lv_iconst (v := 1) hx hb dX10_comes_119 (by decide) ?_
              refine lv_isub hx hb dX10_comes_120 ?_
              refine va_put (D := D) (ci := 10) (v := .int ((mT_waiting u22) - (1 : Int32))) (ty := .int) (C := RX10) (T := TX10) (N := 32) hx hb hts iX10 tyX10 tyX10_ok nmX10 hown hK hP hD hS 0 rfl rfl 4 (by decide) hf136 (fun _ h9 => h9) rfl (by decide +kernel) rfl rfl (Nat.le_of_ble_eq_true rfl) dX10_comes_121 (fun H locs hP hD hS => ?_)
              obtain ⟨u23, eu23, h⟩ := gx_let h
              replace hP : va_P D vwCl (wM cI cZ ad u23) H := by rw [← eu23]; exact hP
              replace hD : va_D A (wM cI cZ ad u23) := by rw [← eu23]; exact hD
              exact hj124_18 u23 _ _ _ h hP hD hS (lv_sub hl [1, 0] rfl)
          refine lv_icmp_eq (tgt := 98) hx hb dX10_comes_91 (by decide) (fun c24 => ?_) (fun c24 => ?_)
          · replace h := gx_t c24 h
            refine lv_iconst (v := 0) hx hb dX10_comes_98 (by decide) ?_
            exact hj99_17 (0 : Int32) _ _ _ h hP hD hS (lv_sub hl [0, 1] rfl)
          · replace h := gx_f c24 h
            refine lv_iconst (v := 1) hx hb dX10_comes_94 (by decide) ?_
            refine lv_goto (tgt := 99) hx hb dX10_comes_95 (by decide) ?_
            exact hj99_17 (1 : Int32) _ _ _ h hP hD hS (lv_sub hl [0, 1] rfl)
  refine hL28 _ (fun w28 H locs ls h hP hD hS hl => ?_) FU (1 : Int32) u2 _ _ _ h hP hD hS (lv_sub hl [1, 0] rfl)
  cases h
  exact cc_vret hx hb hr hQ hK hP hD hS dX10_comes_127 hlocks

def rX10_mostOf : Room := { frames := 0, cells := 0, slots := 0, locals := 0 }
set_option maxHeartbeats 4000000 in
set_option maxRecDepth 100000 in
theorem k_X10_mostOf (l : Launch) (D : va_G) (cI cZ : ClassId) (ad : Nat → Nat) (u : MS) (p0 : Int32) {r : Int32} (h : g_X10_mostOf u p0 = some r) : MI l yX10_mostOf (wm yX10_mostOf cX10_mostOf 5 (some .int)) rX10_mostOf D [(cI, .int), (cZ, .boolean)] (wM cI cZ ad u) (wM cI cZ ad u) [.ref (ad 0), .int p0] r := by
  intro sz
  refine Met.ofW (cc := cX10_mostOf) (maxL := 5) (ret := (some .int)) (by decide) rfl ?_
  intro p e s m args below meth c s₁ B hml hv
  obtain ⟨rfl, hsz, hP, hK, hD0, hZ⟩ := hv
  have hx := B.exec
  have hb := B.bytes
  have hr := B.returns
  have hts : ∀ w ∈ Wall, w.before _ s = true := fun w hw => atoms_spec (ws := wm yX10_mostOf cX10_mostOf 5 (some .int)) B.pre w (List.mem_cons_of_mem _ hw)
  have hown : s.vm.findClass RX10 = some m.cls := findClass_of_methodNamed B.named
  have hlocks := B.notSynchronized
  subst hsz
  have hD := hD0.self (sz := s.heap.size)
  generalize hAe : va_A (wM cI cZ ad u) s.heap.size = A at hD hZ ⊢
  have hA : ∀ q : Nat, s.heap.size ≤ q → A q := fun q h => by rw [← hAe]; exact Or.inr h
  have hS : va_S A s.heap s.heap [] := va_S.rf
  have hf7 := hts _ mw_877
  have hl := lv_entry ([.ref (ad 0), .int p0]) (n := 5) (Nat.le_of_ble_eq_true rfl)
  rw [lg_entry_eq]
  generalize (lg_sl ([.ref (ad 0), .int p0]) ++ List.replicate (5 - (lg_sl ([.ref (ad 0), .int p0])).length) Slot.unset).toArray = ls at hl ⊢
  replace hl : lv_has ls 5 [(0, .ref (ad 0)), (1, .int p0)] := hl
  refine w_gen (fun Q hQ => ?_)
  refine lv_iconst (v := 0) hx hb dX10_mostOf_0 (by decide) ?_
  refine lv_istore_n (lv' := [(2, .int (0 : Int32)), (0, .ref (ad 0)), (1, .int p0)]) hx hb dX10_mostOf_1 rfl hl (by decide) rfl (fun ls hl => ?_)
  refine lv_iconst (v := 0) hx hb dX10_mostOf_2 (by decide) ?_
  refine lv_istore_n (lv' := [(3, .int (0 : Int32)), (2, .int (0 : Int32)), (0, .ref (ad 0)), (1, .int p0)]) hx hb dX10_mostOf_3 rfl hl (by decide) rfl (fun ls hl => ?_)
  have hL4 : ∀ (k : Int32 → Option (Int32)) (hk : ∀ (x2_4 : Int32) (H : Heap) (locs : List Loc) (ls : Array Slot), k x2_4 = some r → va_P D vwCl (wM cI cZ ad u) H → va_D A (wM cI cZ ad u) → va_S A s.heap H locs → lv_has ls 5 [(2, .int x2_4)] → W p l e rX10_mostOf s m ([.ref (ad 0), .int p0] : List Value).toArray below meth c H locs 0 0 Q (F0 m 40 ls [])) (n : Nat) (x2_4 : Int32) (x3_4 : Int32) (H : Heap) (locs : List Loc) (ls : Array Slot), lp_X10_mostOf_4 u p0 k n x2_4 x3_4 = some r → va_P D vwCl (wM cI cZ ad u) H → va_D A (wM cI cZ ad u) → va_S A s.heap H locs → lv_has ls 5 [(0, .ref (ad 0)), (1, .int p0), (2, .int x2_4), (3, .int x3_4)] → W p l e rX10_mostOf s m ([.ref (ad 0), .int p0] : List Value).toArray below meth c H locs 0 0 Q (F0 m 4 ls []) := by
    intro k hk n
    induction n with
    | zero =>
      intro x2_4 x3_4 H locs ls h
      rw [lp_X10_mostOf_4] at h
      cases h
    | succ n ih =>
      intro x2_4 x3_4 H locs ls h hP hD hS hl
      rw [lp_X10_mostOf_4] at h
      refine lv_iload_n hx hb dX10_mostOf_4 rfl (lv_at hl 3 rfl) ?_
      refine lv_iconst (v := 4) hx hb dX10_mostOf_5 (by decide) ?_
      refine lv_icmp_ge (tgt := 40) hx hb dX10_mostOf_6 (by decide) (fun c1 => ?_) (fun c1 => ?_)
      · replace h := gx_t c1 h
        exact hk x2_4 _ _ _ h hP hD hS (lv_sub hl [2] rfl)
      · replace h := gx_f c1 h
        refine lv_aload_n hx hb dX10_mostOf_9 rfl (lv_at hl 0 rfl) ?_
        refine va_get (D := D) (ci := 10) (v := .ref (ad 1)) (C := RX10) (T := TX10) (N := 32) hx hb hts iX10 hown hK hP 0 rfl rfl 6 (by decide) hf7 (fun _ h9 => h9) rfl dX10_mostOf_10 ?_
        refine lv_iconst (v := 4) hx hb dX10_mostOf_13 (by decide) ?_
        refine lv_iload_n hx hb dX10_mostOf_14 rfl (lv_at hl 1 rfl) ?_
        refine lv_imul hx hb dX10_mostOf_15 ?_
        refine lv_iload_n hx hb dX10_mostOf_16 rfl (lv_at hl 3 rfl) ?_
        refine lv_iadd hx hb dX10_mostOf_17 ?_
        obtain ⟨b2, h⟩ := gx_in h
        refine va_iald (D := D) hx hb hK hP 1 0 rfl rfl b2 dX10_mostOf_18 ?_
        obtain ⟨v3, ev3, h⟩ := gx_let h
        refine lv_topn ev3 ?_
        refine lv_istore (lv' := [(4, .int v3), (0, .ref (ad 0)), (1, .int p0), (2, .int x2_4), (3, .int x3_4)]) hx hb dX10_mostOf_19 hl (by decide) rfl (fun ls hl => ?_)
        refine lv_iload hx hb dX10_mostOf_21 (lv_at hl 0 rfl) ?_
        refine lv_iload_n hx hb dX10_mostOf_23 rfl (lv_at hl 3 rfl) ?_
        obtain ⟨j33_4, ej33_4, h⟩ := gx_let h
        have hj33_4 : ∀ (z0_33 : Int32) (H : Heap) (locs : List Loc) (ls : Array Slot), j33_4 z0_33 = some r → va_P D vwCl (wM cI cZ ad u) H → va_D A (wM cI cZ ad u) → va_S A s.heap H locs → lv_has ls 5 [(0, .ref (ad 0)), (1, .int p0), (3, .int x3_4)] → W p l e rX10_mostOf s m ([.ref (ad 0), .int p0] : List Value).toArray below meth c H locs 0 0 Q (F0 m 33 ls [.int z0_33]) := by
          intro z0_33 H locs ls h hP hD hS hl
          subst ej33_4
          refine lv_istore_n (lv' := [(2, .int z0_33), (0, .ref (ad 0)), (1, .int p0), (3, .int x3_4)]) hx hb dX10_mostOf_33 rfl hl (by decide) rfl (fun ls hl => ?_)
          obtain ⟨v5, ev5, h⟩ := gx_let h
          refine lv_iinc (v := v5) (lv' := [(3, .int v5), (2, .int z0_33), (0, .ref (ad 0)), (1, .int p0)]) hx hb dX10_mostOf_34 hl (k := 3) rfl (by rw [← ev5]; rfl) (by decide) rfl (fun ls hl => ?_)
          refine lv_goto (tgt := 4) hx hb dX10_mostOf_37 (by decide) ?_
          exact ih z0_33 v5 _ _ _ h hP hD hS (lv_sub hl [2, 3, 1, 0] rfl)
        refine lv_icmp_le (tgt := 32) hx hb dX10_mostOf_24 (by decide) (fun c6 => ?_) (fun c6 => ?_)
        · replace h := gx_t c6 h
          refine lv_iload_n hx hb dX10_mostOf_32 rfl (lv_at hl 3 rfl) ?_
          exact hj33_4 x2_4 _ _ _ h hP hD hS (lv_sub hl [1, 2, 4] rfl)
        · replace h := gx_f c6 h
          refine lv_iload hx hb dX10_mostOf_27 (lv_at hl 0 rfl) ?_
          refine lv_goto (tgt := 33) hx hb dX10_mostOf_29 (by decide) ?_
          exact hj33_4 v3 _ _ _ h hP hD hS (lv_sub hl [1, 2, 4] rfl)
  refine hL4 _ (fun x2_4 H locs ls h hP hD hS hl => ?_) FU (0 : Int32) (0 : Int32) _ _ _ h hP hD hS (lv_sub hl [2, 3, 1, 0] rfl)
  refine lv_iload_n hx hb dX10_mostOf_40 rfl (lv_at hl 0 rfl) ?_
  cases h
  exact cc_ret hx hb hr rfl hQ hK hP hD hS rfl dX10_mostOf_41 hlocks

def rX10_speedOf : Room := { frames := 1, cells := 0, slots := 0, locals := 24 }
set_option maxHeartbeats 4000000 in
set_option maxRecDepth 100000 in
theorem k_X10_speedOf (l : Launch) (D : va_G) (cI cZ : ClassId) (ad : Nat → Nat) (u : MS) (p0 : Int32) {r : Int32} (h : g_X10_speedOf u p0 = some r) : MI l yX10_speedOf (wm yX10_speedOf cX10_speedOf 2 (some .int)) rX10_speedOf D [(cI, .int), (cZ, .boolean)] (wM cI cZ ad u) (wM cI cZ ad u) [.ref (ad 0), .int p0] r := by
  intro sz
  refine Met.ofW (cc := cX10_speedOf) (maxL := 2) (ret := (some .int)) (by decide) rfl ?_
  intro p e s m args below meth c s₁ B hml hv
  obtain ⟨rfl, hsz, hP, hK, hD0, hZ⟩ := hv
  have hx := B.exec
  have hb := B.bytes
  have hr := B.returns
  have hts : ∀ w ∈ Wall, w.before _ s = true := fun w hw => atoms_spec (ws := wm yX10_speedOf cX10_speedOf 2 (some .int)) B.pre w (List.mem_cons_of_mem _ hw)
  have hown : s.vm.findClass RX10 = some m.cls := findClass_of_methodNamed B.named
  have hlocks := B.notSynchronized
  subst hsz
  have hD := hD0.self (sz := s.heap.size)
  generalize hAe : va_A (wM cI cZ ad u) s.heap.size = A at hD hZ ⊢
  have hA : ∀ q : Nat, s.heap.size ≤ q → A q := fun q h => by rw [← hAe]; exact Or.inr h
  have hS : va_S A s.heap s.heap [] := va_S.rf
  have hl := lv_entry ([.ref (ad 0), .int p0]) (n := 2) (Nat.le_of_ble_eq_true rfl)
  rw [lg_entry_eq]
  generalize (lg_sl ([.ref (ad 0), .int p0]) ++ List.replicate (2 - (lg_sl ([.ref (ad 0), .int p0])).length) Slot.unset).toArray = ls at hl ⊢
  replace hl : lv_has ls 2 [(0, .ref (ad 0)), (1, .int p0)] := hl
  refine w_gen (fun Q hQ => ?_)
  refine lv_bipush (v := 120) hx hb dX10_speedOf_0 (by decide) ?_
  refine lv_iconst (v := 5) hx hb dX10_speedOf_2 (by decide) ?_
  refine lv_aload_n hx hb dX10_speedOf_3 rfl (lv_at hl 0 rfl) ?_
  refine lv_iload_n hx hb dX10_speedOf_4 rfl (lv_at hl 1 rfl) ?_
  obtain ⟨y1, hc2, h⟩ := gx_bind h
  refine cc_iV (As := [.int p0]) (rest := [.int (5 : Int32), .int (120 : Int32)]) ⟨hx, hb, hml, hown, hts⟩ (k_X10_mostOf l D cI cZ ad u p0 hc2) (cwV 1 hts (gwV mw_1008 mw_1010 mw_31 mw_59 mw_1011) rfl rfl rfl (by decide +kernel) ⟨Nat.le_of_ble_eq_true rfl, Nat.le_of_ble_eq_true rfl⟩) hK hP hD hS hA hZ (ci := 10) (q0 := 0) rfl rfl rfl hl.1 rfl (Nat.le_of_ble_eq_true rfl) dX10_speedOf_5 ⟨Nat.zero_le _, Nat.zero_le _⟩ (fun H locs hP hD hS => ?_)
  refine lv_imul hx hb dX10_speedOf_8 ?_
  refine lv_isub hx hb dX10_speedOf_9 ?_
  cases h
  exact cc_ret hx hb hr rfl hQ hK hP hD hS rfl dX10_speedOf_10 hlocks

def rX10_guessOf : Room := { frames := 2, cells := 0, slots := 0, locals := 45 }
set_option maxHeartbeats 4000000 in
set_option maxRecDepth 100000 in
theorem k_X10_guessOf (l : Launch) (D : va_G) (cI cZ : ClassId) (ad : Nat → Nat) (u : MS) (p0 : Int32) {r : Int32} (h : g_X10_guessOf u p0 = some r) : MI l yX10_guessOf (wm yX10_guessOf cX10_guessOf 5 (some .int)) rX10_guessOf D [(cI, .int), (cZ, .boolean)] (wM cI cZ ad u) (wM cI cZ ad u) [.ref (ad 0), .int p0] r := by
  intro sz
  refine Met.ofW (cc := cX10_guessOf) (maxL := 5) (ret := (some .int)) (by decide) rfl ?_
  intro p e s m args below meth c s₁ B hml hv
  obtain ⟨rfl, hsz, hP, hK, hD0, hZ⟩ := hv
  have hx := B.exec
  have hb := B.bytes
  have hr := B.returns
  have hts : ∀ w ∈ Wall, w.before _ s = true := fun w hw => atoms_spec (ws := wm yX10_guessOf cX10_guessOf 5 (some .int)) B.pre w (List.mem_cons_of_mem _ hw)
  have hown : s.vm.findClass RX10 = some m.cls := findClass_of_methodNamed B.named
  have hlocks := B.notSynchronized
  subst hsz
  have hD := hD0.self (sz := s.heap.size)
  generalize hAe : va_A (wM cI cZ ad u) s.heap.size = A at hD hZ ⊢
  have hA : ∀ q : Nat, s.heap.size ≤ q → A q := fun q h => by rw [← hAe]; exact Or.inr h
  have hS : va_S A s.heap s.heap [] := va_S.rf
  have hf32 := hts _ mw_884
  have hl := lv_entry ([.ref (ad 0), .int p0]) (n := 5) (Nat.le_of_ble_eq_true rfl)
  rw [lg_entry_eq]
  generalize (lg_sl ([.ref (ad 0), .int p0]) ++ List.replicate (5 - (lg_sl ([.ref (ad 0), .int p0])).length) Slot.unset).toArray = ls at hl ⊢
  replace hl : lv_has ls 5 [(0, .ref (ad 0)), (1, .int p0)] := hl
  refine w_gen (fun Q hQ => ?_)
  refine lv_iload_n hx hb dX10_guessOf_0 rfl (lv_at hl 1 rfl) ?_
  obtain ⟨j20_1, ej20_1, h⟩ := gx_let h
  have hj20_1 : ∀ (z0_20 : Int32) (H : Heap) (locs : List Loc) (ls : Array Slot), j20_1 z0_20 = some r → va_P D vwCl (wM cI cZ ad u) H → va_D A (wM cI cZ ad u) → va_S A s.heap H locs → lv_has ls 5 [(0, .ref (ad 0)), (1, .int p0)] → W p l e rX10_guessOf s m ([.ref (ad 0), .int p0] : List Value).toArray below meth c H locs 0 0 Q (F0 m 20 ls [.int z0_20]) := by
    intro z0_20 H locs ls h hP hD hS hl
    subst ej20_1
    refine lv_istore_n (lv' := [(2, .int z0_20), (0, .ref (ad 0)), (1, .int p0)]) hx hb dX10_guessOf_20 rfl hl (by decide) rfl (fun ls hl => ?_)
    refine lv_iload_n hx hb dX10_guessOf_21 rfl (lv_at hl 2 rfl) ?_
    refine lv_bipush (v := 11) hx hb dX10_guessOf_22 (by decide) ?_
    obtain ⟨j43_2, ej43_2, h⟩ := gx_let h
    have hj43_2 : ∀ (z0_43 : Int32) (H : Heap) (locs : List Loc) (ls : Array Slot), j43_2 z0_43 = some r → va_P D vwCl (wM cI cZ ad u) H → va_D A (wM cI cZ ad u) → va_S A s.heap H locs → lv_has ls 5 [(0, .ref (ad 0)), (1, .int p0), (2, .int z0_20)] → W p l e rX10_guessOf s m ([.ref (ad 0), .int p0] : List Value).toArray below meth c H locs 0 0 Q (F0 m 43 ls [.int z0_43]) := by
      intro z0_43 H locs ls h hP hD hS hl
      subst ej43_2
      refine lv_istore_n (lv' := [(3, .int z0_43), (0, .ref (ad 0)), (1, .int p0), (2, .int z0_20)]) hx hb dX10_guessOf_43 rfl hl (by decide) rfl (fun ls hl => ?_)
      refine lv_iload_n hx hb dX10_guessOf_44 rfl (lv_at hl 3 rfl) ?_
      obtain ⟨j54_3, ej54_3, h⟩ := gx_let h
      have hj54_3 : ∀ (H : Heap) (locs : List Loc) (ls : Array Slot), j54_3 () = some r → va_P D vwCl (wM cI cZ ad u) H → va_D A (wM cI cZ ad u) → va_S A s.heap H locs → lv_has ls 5 [(0, .ref (ad 0)), (1, .int p0), (2, .int z0_20), (3, .int z0_43)] → W p l e rX10_guessOf s m ([.ref (ad 0), .int p0] : List Value).toArray below meth c H locs 0 0 Q (F0 m 54 ls []) := by
        intro  H locs ls h hP hD hS hl
        subst ej54_3
        refine lv_iload_n hx hb dX10_guessOf_54 rfl (lv_at hl 2 rfl) ?_
        obtain ⟨j69_4, ej69_4, h⟩ := gx_let h
        have hj69_4 : ∀ (z0_69 : Int32) (H : Heap) (locs : List Loc) (ls : Array Slot), j69_4 z0_69 = some r → va_P D vwCl (wM cI cZ ad u) H → va_D A (wM cI cZ ad u) → va_S A s.heap H locs → lv_has ls 5 [(0, .ref (ad 0)), (1, .int p0), (2, .int z0_20), (3, .int z0_43)] → W p l e rX10_guessOf s m ([.ref (ad 0), .int p0] : List Value).toArray below meth c H locs 0 0 Q (F0 m 69 ls [.int z0_69]) := by
          intro z0_69 H locs ls h hP hD hS hl
          subst ej69_4
          refine lv_iload_n hx hb dX10_guessOf_69 rfl (lv_at hl 3 rfl) ?_
          obtain ⟨j84_5, ej84_5, h⟩ := gx_let h
          have hj84_5 : ∀ (z0_84 : Int32) (H : Heap) (locs : List Loc) (ls : Array Slot), j84_5 z0_84 = some r → va_P D vwCl (wM cI cZ ad u) H → va_D A (wM cI cZ ad u) → va_S A s.heap H locs → lv_has ls 5 [(2, .int z0_20), (3, .int z0_43)] → W p l e rX10_guessOf s m ([.ref (ad 0), .int p0] : List Value).toArray below meth c H locs 0 0 Q (F0 m 84 ls [.int z0_84, .int z0_69]) := by
            intro z0_84 H locs ls h hP hD hS hl
            subst ej84_5
            refine lv_iadd hx hb dX10_guessOf_84 ?_
            obtain ⟨v6, ev6, h⟩ := gx_let h
            refine lv_topn ev6 ?_
            refine lv_istore (lv' := [(4, .int v6), (2, .int z0_20), (3, .int z0_43)]) hx hb dX10_guessOf_85 hl (by decide) rfl (fun ls hl => ?_)
            refine lv_iload_n hx hb dX10_guessOf_87 rfl (lv_at hl 1 rfl) ?_
            refine lv_if_eq (tgt := 102) hx hb dX10_guessOf_88 (by decide) (fun c7 => ?_) (fun c7 => ?_)
            · replace h := gx_t c7 h
              refine lv_iload hx hb dX10_guessOf_102 (lv_at hl 0 rfl) ?_
              cases h
              exact cc_ret hx hb hr rfl hQ hK hP hD hS rfl dX10_guessOf_104 hlocks
            · replace h := gx_f c7 h
              refine lv_iload_n hx hb dX10_guessOf_91 rfl (lv_at hl 2 rfl) ?_
              refine lv_if_eq (tgt := 102) hx hb dX10_guessOf_92 (by decide) (fun c8 => ?_) (fun c8 => ?_)
              · replace h := gx_t c8 h
                refine lv_iload hx hb dX10_guessOf_102 (lv_at hl 0 rfl) ?_
                cases h
                exact cc_ret hx hb hr rfl hQ hK hP hD hS rfl dX10_guessOf_104 hlocks
              · replace h := gx_f c8 h
                refine lv_iload hx hb dX10_guessOf_95 (lv_at hl 0 rfl) ?_
                refine lv_iconst (v := 2) hx hb dX10_guessOf_97 (by decide) ?_
                refine lv_idiv hx hb dX10_guessOf_98 (by decide) ?_
                refine lv_goto (tgt := 104) hx hb dX10_guessOf_99 (by decide) ?_
                cases h
                exact cc_ret hx hb hr rfl hQ hK hP hD hS rfl dX10_guessOf_104 hlocks
          refine lv_if_eq (tgt := 83) hx hb dX10_guessOf_70 (by decide) (fun c9 => ?_) (fun c9 => ?_)
          · replace h := gx_t c9 h
            refine lv_iconst (v := 0) hx hb dX10_guessOf_83 (by decide) ?_
            exact hj84_5 (0 : Int32) _ _ _ h hP hD hS (lv_sub hl [2, 3] rfl)
          · replace h := gx_f c9 h
            refine lv_aload_n hx hb dX10_guessOf_73 rfl (lv_at hl 0 rfl) ?_
            refine lv_iload_n hx hb dX10_guessOf_74 rfl (lv_at hl 1 rfl) ?_
            refine lv_iconst (v := 1) hx hb dX10_guessOf_75 (by decide) ?_
            refine lv_iadd hx hb dX10_guessOf_76 ?_
            obtain ⟨y10, hc11, h⟩ := gx_bind h
            refine cc_iV (As := [.int (p0 + (1 : Int32))]) (rest := [.int z0_69]) ⟨hx, hb, hml, hown, hts⟩ (k_X10_speedOf l D cI cZ ad u (p0 + (1 : Int32)) hc11) (cwV 1 hts (gwV mw_1024 mw_1026 mw_35 mw_59 mw_1027) rfl rfl rfl (by decide +kernel) ⟨Nat.le_of_ble_eq_true rfl, Nat.le_of_ble_eq_true rfl⟩) hK hP hD hS hA hZ (ci := 10) (q0 := 0) rfl rfl rfl hl.1 rfl (Nat.le_of_ble_eq_true rfl) dX10_guessOf_77 ⟨Nat.zero_le _, Nat.zero_le _⟩ (fun H locs hP hD hS => ?_)
            refine lv_goto (tgt := 84) hx hb dX10_guessOf_80 (by decide) ?_
            exact hj84_5 y10 _ _ _ h hP hD hS (lv_sub hl [2, 3] rfl)
        refine lv_if_eq (tgt := 68) hx hb dX10_guessOf_55 (by decide) (fun c12 => ?_) (fun c12 => ?_)
        · replace h := gx_t c12 h
          refine lv_iconst (v := 0) hx hb dX10_guessOf_68 (by decide) ?_
          exact hj69_4 (0 : Int32) _ _ _ h hP hD hS (lv_sub hl [0, 1, 2, 3] rfl)
        · replace h := gx_f c12 h
          refine lv_aload_n hx hb dX10_guessOf_58 rfl (lv_at hl 0 rfl) ?_
          refine lv_iload_n hx hb dX10_guessOf_59 rfl (lv_at hl 1 rfl) ?_
          refine lv_iconst (v := 1) hx hb dX10_guessOf_60 (by decide) ?_
          refine lv_isub hx hb dX10_guessOf_61 ?_
          obtain ⟨y13, hc14, h⟩ := gx_bind h
          refine cc_iV (As := [.int (p0 - (1 : Int32))]) (rest := []) ⟨hx, hb, hml, hown, hts⟩ (k_X10_speedOf l D cI cZ ad u (p0 - (1 : Int32)) hc14) (cwV 1 hts (gwV mw_1024 mw_1026 mw_35 mw_59 mw_1027) rfl rfl rfl (by decide +kernel) ⟨Nat.le_of_ble_eq_true rfl, Nat.le_of_ble_eq_true rfl⟩) hK hP hD hS hA hZ (ci := 10) (q0 := 0) rfl rfl rfl hl.1 rfl (Nat.le_of_ble_eq_true rfl) dX10_guessOf_62 ⟨Nat.zero_le _, Nat.zero_le _⟩ (fun H locs hP hD hS => ?_)
          refine lv_goto (tgt := 69) hx hb dX10_guessOf_65 (by decide) ?_
          exact hj69_4 y13 _ _ _ h hP hD hS (lv_sub hl [0, 1, 2, 3] rfl)
      refine lv_if_ne (tgt := 54) hx hb dX10_guessOf_45 (by decide) (fun c15 => ?_) (fun c15 => ?_)
      · replace h := gx_f c15 h
        exact hj54_3 _ _ _ h hP hD hS (lv_sub hl [1, 2, 3, 0] rfl)
      · replace h := gx_t c15 h
        refine lv_iload_n hx hb dX10_guessOf_48 rfl (lv_at hl 0 rfl) ?_
        refine lv_if_ne (tgt := 54) hx hb dX10_guessOf_49 (by decide) (fun c16 => ?_) (fun c16 => ?_)
        · replace h := gx_f c16 h
          exact hj54_3 _ _ _ h hP hD hS (lv_sub hl [1, 2, 3, 0] rfl)
        · replace h := gx_t c16 h
          refine lv_iconst (v := (-1)) hx hb dX10_guessOf_52 (by decide) ?_
          cases h
          exact cc_ret hx hb hr rfl hQ hK hP hD hS rfl dX10_guessOf_53 hlocks
    obtain ⟨j42_17, ej42_17, h⟩ := gx_let h
    have hj42_17 : ∀ (H : Heap) (locs : List Loc) (ls : Array Slot), j42_17 () = some r → va_P D vwCl (wM cI cZ ad u) H → va_D A (wM cI cZ ad u) → va_S A s.heap H locs → lv_has ls 5 [(0, .ref (ad 0)), (1, .int p0), (2, .int z0_20)] → W p l e rX10_guessOf s m ([.ref (ad 0), .int p0] : List Value).toArray below meth c H locs 0 0 Q (F0 m 42 ls []) := by
      intro  H locs ls h hP hD hS hl
      subst ej42_17
      refine lv_iconst (v := 0) hx hb dX10_guessOf_42 (by decide) ?_
      exact hj43_2 (0 : Int32) _ _ _ h hP hD hS (lv_sub hl [0, 1, 2] rfl)
    refine lv_icmp_ge (tgt := 42) hx hb dX10_guessOf_24 (by decide) (fun c18 => ?_) (fun c18 => ?_)
    · replace h := gx_t c18 h
      exact hj42_17 _ _ _ h hP hD hS (lv_sub hl [1, 2, 0] rfl)
    · replace h := gx_f c18 h
      refine lv_aload_n hx hb dX10_guessOf_27 rfl (lv_at hl 1 rfl) ?_
      refine va_get (D := D) (ci := 10) (v := .ref (ad 8)) (C := RX10) (T := TX10) (N := 32) hx hb hts iX10 hown hK hP 0 rfl rfl 13 (by decide) hf32 (fun _ h9 => h9) rfl dX10_guessOf_28 ?_
      refine lv_iload_n hx hb dX10_guessOf_31 rfl (lv_at hl 2 rfl) ?_
      refine lv_iconst (v := 1) hx hb dX10_guessOf_32 (by decide) ?_
      refine lv_iadd hx hb dX10_guessOf_33 ?_
      obtain ⟨b19, h⟩ := gx_in h
      refine va_iald (D := D) hx hb hK hP 8 0 rfl rfl b19 dX10_guessOf_34 ?_
      refine lv_if_ne (tgt := 42) hx hb dX10_guessOf_35 (by decide) (fun c20 => ?_) (fun c20 => ?_)
      · replace h := gx_f c20 h
        exact hj42_17 _ _ _ h hP hD hS (lv_sub hl [1, 2, 0] rfl)
      · replace h := gx_t c20 h
        refine lv_iconst (v := 1) hx hb dX10_guessOf_38 (by decide) ?_
        refine lv_goto (tgt := 43) hx hb dX10_guessOf_39 (by decide) ?_
        exact hj43_2 (1 : Int32) _ _ _ h hP hD hS (lv_sub hl [1, 2, 0] rfl)
  obtain ⟨j19_21, ej19_21, h⟩ := gx_let h
  have hj19_21 : ∀ (H : Heap) (locs : List Loc) (ls : Array Slot), j19_21 () = some r → va_P D vwCl (wM cI cZ ad u) H → va_D A (wM cI cZ ad u) → va_S A s.heap H locs → lv_has ls 5 [(0, .ref (ad 0)), (1, .int p0)] → W p l e rX10_guessOf s m ([.ref (ad 0), .int p0] : List Value).toArray below meth c H locs 0 0 Q (F0 m 19 ls []) := by
    intro  H locs ls h hP hD hS hl
    subst ej19_21
    refine lv_iconst (v := 0) hx hb dX10_guessOf_19 (by decide) ?_
    exact hj20_1 (0 : Int32) _ _ _ h hP hD hS (lv_sub hl [0, 1] rfl)
  refine lv_if_le (tgt := 19) hx hb dX10_guessOf_1 (by decide) (fun c22 => ?_) (fun c22 => ?_)
  · replace h := gx_t c22 h
    exact hj19_21 _ _ _ h hP hD hS (lv_sub hl [0, 1] rfl)
  · replace h := gx_f c22 h
    refine lv_aload_n hx hb dX10_guessOf_4 rfl (lv_at hl 0 rfl) ?_
    refine va_get (D := D) (ci := 10) (v := .ref (ad 8)) (C := RX10) (T := TX10) (N := 32) hx hb hts iX10 hown hK hP 0 rfl rfl 13 (by decide) hf32 (fun _ h9 => h9) rfl dX10_guessOf_5 ?_
    refine lv_iload_n hx hb dX10_guessOf_8 rfl (lv_at hl 1 rfl) ?_
    refine lv_iconst (v := 1) hx hb dX10_guessOf_9 (by decide) ?_
    refine lv_isub hx hb dX10_guessOf_10 ?_
    obtain ⟨b23, h⟩ := gx_in h
    refine va_iald (D := D) hx hb hK hP 8 0 rfl rfl b23 dX10_guessOf_11 ?_
    refine lv_if_ne (tgt := 19) hx hb dX10_guessOf_12 (by decide) (fun c24 => ?_) (fun c24 => ?_)
    · replace h := gx_f c24 h
      exact hj19_21 _ _ _ h hP hD hS (lv_sub hl [0, 1] rfl)
    · replace h := gx_t c24 h
      refine lv_iconst (v := 1) hx hb dX10_guessOf_15 (by decide) ?_
      refine lv_goto (tgt := 20) hx hb dX10_guessOf_16 (by decide) ?_
      exact hj20_1 (1 : Int32) _ _ _ h hP hD hS (lv_sub hl [0, 1] rfl)

def rX10_beliefOf : Room := { frames := 3, cells := 0, slots := 0, locals := 69 }
set_option maxHeartbeats 4000000 in
set_option maxRecDepth 100000 in
theorem k_X10_beliefOf (l : Launch) (D : va_G) (cI cZ : ClassId) (ad : Nat → Nat) (u : MS) (p0 : Int32) {r : Int32} (h : g_X10_beliefOf u p0 = some r) : MI l yX10_beliefOf (wm yX10_beliefOf cX10_beliefOf 4 (some .int)) rX10_beliefOf D [(cI, .int), (cZ, .boolean)] (wM cI cZ ad u) (wM cI cZ ad u) [.ref (ad 0), .int p0] r := by
  intro sz
  refine Met.ofW (cc := cX10_beliefOf) (maxL := 4) (ret := (some .int)) (by decide) rfl ?_
  intro p e s m args below meth c s₁ B hml hv
  obtain ⟨rfl, hsz, hP, hK, hD0, hZ⟩ := hv
  have hx := B.exec
  have hb := B.bytes
  have hr := B.returns
  have hts : ∀ w ∈ Wall, w.before _ s = true := fun w hw => atoms_spec (ws := wm yX10_beliefOf cX10_beliefOf 4 (some .int)) B.pre w (List.mem_cons_of_mem _ hw)
  have hown : s.vm.findClass RX10 = some m.cls := findClass_of_methodNamed B.named
  have hlocks := B.notSynchronized
  subst hsz
  have hD := hD0.self (sz := s.heap.size)
  generalize hAe : va_A (wM cI cZ ad u) s.heap.size = A at hD hZ ⊢
  have hA : ∀ q : Nat, s.heap.size ≤ q → A q := fun q h => by rw [← hAe]; exact Or.inr h
  have hS : va_S A s.heap s.heap [] := va_S.rf
  have hf32 := hts _ mw_884
  have hf35 := hts _ mw_885
  have hl := lv_entry ([.ref (ad 0), .int p0]) (n := 4) (Nat.le_of_ble_eq_true rfl)
  rw [lg_entry_eq]
  generalize (lg_sl ([.ref (ad 0), .int p0]) ++ List.replicate (4 - (lg_sl ([.ref (ad 0), .int p0])).length) Slot.unset).toArray = ls at hl ⊢
  replace hl : lv_has ls 4 [(0, .ref (ad 0)), (1, .int p0)] := hl
  refine w_gen (fun Q hQ => ?_)
  refine lv_aload_n hx hb dX10_beliefOf_0 rfl (lv_at hl 0 rfl) ?_
  refine va_get (D := D) (ci := 10) (v := .ref (ad 8)) (C := RX10) (T := TX10) (N := 32) hx hb hts iX10 hown hK hP 0 rfl rfl 13 (by decide) hf32 (fun _ h9 => h9) rfl dX10_beliefOf_1 ?_
  refine lv_iload_n hx hb dX10_beliefOf_4 rfl (lv_at hl 1 rfl) ?_
  obtain ⟨b1, h⟩ := gx_in h
  refine va_iald (D := D) hx hb hK hP 8 0 rfl rfl b1 dX10_beliefOf_5 ?_
  refine lv_if_ne (tgt := 15) hx hb dX10_beliefOf_6 (by decide) (fun c2 => ?_) (fun c2 => ?_)
  · replace h := gx_f c2 h
    refine lv_aload_n hx hb dX10_beliefOf_15 rfl (lv_at hl 0 rfl) ?_
    refine lv_iload_n hx hb dX10_beliefOf_16 rfl (lv_at hl 1 rfl) ?_
    obtain ⟨y3, hc4, h⟩ := gx_bind h
    refine cc_iV (As := [.int p0]) (rest := []) ⟨hx, hb, hml, hown, hts⟩ (k_X10_guessOf l D cI cZ ad u p0 hc4) (cwV 1 hts (gwV mw_1028 mw_1030 mw_36 mw_59 mw_1031) rfl rfl rfl (by decide +kernel) ⟨Nat.le_of_ble_eq_true rfl, Nat.le_of_ble_eq_true rfl⟩) hK hP hD hS hA hZ (ci := 10) (q0 := 0) rfl rfl rfl hl.1 rfl (Nat.le_of_ble_eq_true rfl) dX10_beliefOf_17 ⟨Nat.zero_le _, Nat.zero_le _⟩ (fun H locs hP hD hS => ?_)
    refine lv_istore_n (lv' := [(2, .int y3), (0, .ref (ad 0)), (1, .int p0)]) hx hb dX10_beliefOf_20 rfl hl (by decide) rfl (fun ls hl => ?_)
    refine lv_aload_n hx hb dX10_beliefOf_21 rfl (lv_at hl 1 rfl) ?_
    refine va_get (D := D) (ci := 10) (v := .ref (ad 8)) (C := RX10) (T := TX10) (N := 32) hx hb hts iX10 hown hK hP 0 rfl rfl 13 (by decide) hf32 (fun _ h9 => h9) rfl dX10_beliefOf_22 ?_
    refine lv_iload_n hx hb dX10_beliefOf_25 rfl (lv_at hl 2 rfl) ?_
    obtain ⟨b5, h⟩ := gx_in h
    refine va_iald (D := D) hx hb hK hP 8 0 rfl rfl b5 dX10_beliefOf_26 ?_
    refine lv_iconst (v := 2) hx hb dX10_beliefOf_27 (by decide) ?_
    refine lv_icmp_ne (tgt := 33) hx hb dX10_beliefOf_28 (by decide) (fun c6 => ?_) (fun c6 => ?_)
    · replace h := gx_f c6 h
      refine lv_iload_n hx hb dX10_beliefOf_33 rfl (lv_at hl 0 rfl) ?_
      refine lv_aload_n hx hb dX10_beliefOf_34 rfl (lv_at hl 1 rfl) ?_
      refine va_get (D := D) (ci := 10) (v := .ref (ad 9)) (C := RX10) (T := TX10) (N := 32) hx hb hts iX10 hown hK hP 0 rfl rfl 14 (by decide) hf35 (fun _ h9 => h9) rfl dX10_beliefOf_35 ?_
      refine lv_iload_n hx hb dX10_beliefOf_38 rfl (lv_at hl 2 rfl) ?_
      obtain ⟨b7, h⟩ := gx_in h
      refine va_iald (D := D) hx hb hK hP 9 0 rfl rfl b7 dX10_beliefOf_39 ?_
      obtain ⟨j62_8, ej62_8, h⟩ := gx_let h
      have hj62_8 : ∀ (z0_62 : Int32) (H : Heap) (locs : List Loc) (ls : Array Slot), j62_8 z0_62 = some r → va_P D vwCl (wM cI cZ ad u) H → va_D A (wM cI cZ ad u) → va_S A s.heap H locs → lv_has ls 4 [(0, .ref (ad 0)), (1, .int p0), (2, .int y3)] → W p l e rX10_beliefOf s m ([.ref (ad 0), .int p0] : List Value).toArray below meth c H locs 0 0 Q (F0 m 62 ls [.int z0_62]) := by
        intro z0_62 H locs ls h hP hD hS hl
        subst ej62_8
        refine lv_istore_n (lv' := [(3, .int z0_62), (0, .ref (ad 0)), (1, .int p0), (2, .int y3)]) hx hb dX10_beliefOf_62 rfl hl (by decide) rfl (fun ls hl => ?_)
        refine lv_iload_n hx hb dX10_beliefOf_63 rfl (lv_at hl 3 rfl) ?_
        refine lv_iconst (v := (-1)) hx hb dX10_beliefOf_64 (by decide) ?_
        refine lv_icmp_eq (tgt := 78) hx hb dX10_beliefOf_65 (by decide) (fun c9 => ?_) (fun c9 => ?_)
        · replace h := gx_t c9 h
          refine lv_aload_n hx hb dX10_beliefOf_78 rfl (lv_at hl 1 rfl) ?_
          refine va_get (D := D) (ci := 10) (v := .ref (ad 9)) (C := RX10) (T := TX10) (N := 32) hx hb hts iX10 hown hK hP 0 rfl rfl 14 (by decide) hf35 (fun _ h9 => h9) rfl dX10_beliefOf_79 ?_
          refine lv_iload_n hx hb dX10_beliefOf_82 rfl (lv_at hl 2 rfl) ?_
          obtain ⟨b10, h⟩ := gx_in h
          refine va_iald (D := D) hx hb hK hP 9 0 rfl rfl b10 dX10_beliefOf_83 ?_
          cases h
          exact cc_ret hx hb hr rfl hQ hK hP hD hS rfl dX10_beliefOf_84 hlocks
        · replace h := gx_f c9 h
          refine lv_iload_n hx hb dX10_beliefOf_68 rfl (lv_at hl 0 rfl) ?_
          refine lv_bipush (v := 30) hx hb dX10_beliefOf_69 (by decide) ?_
          refine lv_icmp_le (tgt := 78) hx hb dX10_beliefOf_71 (by decide) (fun c11 => ?_) (fun c11 => ?_)
          · replace h := gx_t c11 h
            refine lv_aload_n hx hb dX10_beliefOf_78 rfl (lv_at hl 1 rfl) ?_
            refine va_get (D := D) (ci := 10) (v := .ref (ad 9)) (C := RX10) (T := TX10) (N := 32) hx hb hts iX10 hown hK hP 0 rfl rfl 14 (by decide) hf35 (fun _ h9 => h9) rfl dX10_beliefOf_79 ?_
            refine lv_iload_n hx hb dX10_beliefOf_82 rfl (lv_at hl 2 rfl) ?_
            obtain ⟨b12, h⟩ := gx_in h
            refine va_iald (D := D) hx hb hK hP 9 0 rfl rfl b12 dX10_beliefOf_83 ?_
            cases h
            exact cc_ret hx hb hr rfl hQ hK hP hD hS rfl dX10_beliefOf_84 hlocks
          · replace h := gx_f c11 h
            refine lv_iload_n hx hb dX10_beliefOf_74 rfl (lv_at hl 3 rfl) ?_
            refine lv_goto (tgt := 84) hx hb dX10_beliefOf_75 (by decide) ?_
            cases h
            exact cc_ret hx hb hr rfl hQ hK hP hD hS rfl dX10_beliefOf_84 hlocks
      refine lv_icmp_ge (tgt := 54) hx hb dX10_beliefOf_40 (by decide) (fun c13 => ?_) (fun c13 => ?_)
      · replace h := gx_t c13 h
        refine lv_iload_n hx hb dX10_beliefOf_54 rfl (lv_at hl 0 rfl) ?_
        refine lv_aload_n hx hb dX10_beliefOf_55 rfl (lv_at hl 1 rfl) ?_
        refine va_get (D := D) (ci := 10) (v := .ref (ad 9)) (C := RX10) (T := TX10) (N := 32) hx hb hts iX10 hown hK hP 0 rfl rfl 14 (by decide) hf35 (fun _ h9 => h9) rfl dX10_beliefOf_56 ?_
        refine lv_iload_n hx hb dX10_beliefOf_59 rfl (lv_at hl 2 rfl) ?_
        obtain ⟨b14, h⟩ := gx_in h
        refine va_iald (D := D) hx hb hK hP 9 0 rfl rfl b14 dX10_beliefOf_60 ?_
        refine lv_isub hx hb dX10_beliefOf_61 ?_
        exact hj62_8 (y3 - (mD_stuckAt u p0.toNatClampNeg)) _ _ _ h hP hD hS (lv_sub hl [1, 2, 0] rfl)
      · replace h := gx_f c13 h
        refine lv_aload_n hx hb dX10_beliefOf_43 rfl (lv_at hl 1 rfl) ?_
        refine va_get (D := D) (ci := 10) (v := .ref (ad 9)) (C := RX10) (T := TX10) (N := 32) hx hb hts iX10 hown hK hP 0 rfl rfl 14 (by decide) hf35 (fun _ h9 => h9) rfl dX10_beliefOf_44 ?_
        refine lv_iload_n hx hb dX10_beliefOf_47 rfl (lv_at hl 2 rfl) ?_
        obtain ⟨b15, h⟩ := gx_in h
        refine va_iald (D := D) hx hb hK hP 9 0 rfl rfl b15 dX10_beliefOf_48 ?_
        refine lv_iload_n hx hb dX10_beliefOf_49 rfl (lv_at hl 0 rfl) ?_
        refine lv_isub hx hb dX10_beliefOf_50 ?_
        refine lv_goto (tgt := 62) hx hb dX10_beliefOf_51 (by decide) ?_
        exact hj62_8 ((mD_stuckAt u p0.toNatClampNeg) - y3) _ _ _ h hP hD hS (lv_sub hl [1, 2, 0] rfl)
    · replace h := gx_t c6 h
      refine lv_iload_n hx hb dX10_beliefOf_31 rfl (lv_at hl 0 rfl) ?_
      cases h
      exact cc_ret hx hb hr rfl hQ hK hP hD hS rfl dX10_beliefOf_32 hlocks
  · replace h := gx_t c2 h
    refine lv_aload_n hx hb dX10_beliefOf_9 rfl (lv_at hl 0 rfl) ?_
    refine lv_iload_n hx hb dX10_beliefOf_10 rfl (lv_at hl 1 rfl) ?_
    obtain ⟨y16, hc17, h⟩ := gx_bind h
    refine cc_iV (As := [.int p0]) (rest := []) ⟨hx, hb, hml, hown, hts⟩ (k_X10_speedOf l D cI cZ ad u p0 hc17) (cwV 1 hts (gwV mw_1024 mw_1026 mw_35 mw_59 mw_1027) rfl rfl rfl (by decide +kernel) ⟨Nat.le_of_ble_eq_true rfl, Nat.le_of_ble_eq_true rfl⟩) hK hP hD hS hA hZ (ci := 10) (q0 := 0) rfl rfl rfl hl.1 rfl (Nat.le_of_ble_eq_true rfl) dX10_beliefOf_11 ⟨Nat.zero_le _, Nat.zero_le _⟩ (fun H locs hP hD hS => ?_)
    cases h
    exact cc_ret hx hb hr rfl hQ hK hP hD hS rfl dX10_beliefOf_14 hlocks

def rX10_wantOf : Room := { frames := 4, cells := 0, slots := 0, locals := 92 }
set_option maxHeartbeats 4000000 in
set_option maxRecDepth 100000 in
theorem k_X10_wantOf (l : Launch) (D : va_G) (cI cZ : ClassId) (ad : Nat → Nat) (u : MS) (p0 : Int32) {r : Int32} (h : g_X10_wantOf u p0 = some r) : MI l yX10_wantOf (wm yX10_wantOf cX10_wantOf 5 (some .int)) rX10_wantOf D [(cI, .int), (cZ, .boolean)] (wM cI cZ ad u) (wM cI cZ ad u) [.ref (ad 0), .int p0] r := by
  intro sz
  refine Met.ofW (cc := cX10_wantOf) (maxL := 5) (ret := (some .int)) (by decide) rfl ?_
  intro p e s m args below meth c s₁ B hml hv
  obtain ⟨rfl, hsz, hP, hK, hD0, hZ⟩ := hv
  have hx := B.exec
  have hb := B.bytes
  have hr := B.returns
  have hts : ∀ w ∈ Wall, w.before _ s = true := fun w hw => atoms_spec (ws := wm yX10_wantOf cX10_wantOf 5 (some .int)) B.pre w (List.mem_cons_of_mem _ hw)
  have hown : s.vm.findClass RX10 = some m.cls := findClass_of_methodNamed B.named
  have hlocks := B.notSynchronized
  subst hsz
  have hD := hD0.self (sz := s.heap.size)
  generalize hAe : va_A (wM cI cZ ad u) s.heap.size = A at hD hZ ⊢
  have hA : ∀ q : Nat, s.heap.size ≤ q → A q := fun q h => by rw [← hAe]; exact Or.inr h
  have hS : va_S A s.heap s.heap [] := va_S.rf
  have hf38 := hts _ mw_886
  have hf152 := hts _ mw_889
  have hl := lv_entry ([.ref (ad 0), .int p0]) (n := 5) (Nat.le_of_ble_eq_true rfl)
  rw [lg_entry_eq]
  generalize (lg_sl ([.ref (ad 0), .int p0]) ++ List.replicate (5 - (lg_sl ([.ref (ad 0), .int p0])).length) Slot.unset).toArray = ls at hl ⊢
  replace hl : lv_has ls 5 [(0, .ref (ad 0)), (1, .int p0)] := hl
  refine w_gen (fun Q hQ => ?_)
  refine lv_aload_n hx hb dX10_wantOf_0 rfl (lv_at hl 0 rfl) ?_
  refine va_get (D := D) (ci := 10) (v := .ref (ad 10)) (C := RX10) (T := TX10) (N := 32) hx hb hts iX10 hown hK hP 0 rfl rfl 15 (by decide) hf38 (fun _ h9 => h9) rfl dX10_wantOf_1 ?_
  refine lv_iload_n hx hb dX10_wantOf_4 rfl (lv_at hl 1 rfl) ?_
  obtain ⟨b1, h⟩ := gx_in h
  refine va_iald (D := D) hx hb hK hP 10 0 rfl rfl b1 dX10_wantOf_5 ?_
  refine lv_iconst (v := (-1)) hx hb dX10_wantOf_6 (by decide) ?_
  refine lv_icmp_eq (tgt := 17) hx hb dX10_wantOf_7 (by decide) (fun c2 => ?_) (fun c2 => ?_)
  · replace h := gx_t c2 h
    refine lv_aload_n hx hb dX10_wantOf_17 rfl (lv_at hl 0 rfl) ?_
    refine lv_iload_n hx hb dX10_wantOf_18 rfl (lv_at hl 1 rfl) ?_
    obtain ⟨y3, hc4, h⟩ := gx_bind h
    refine cc_iV (As := [.int p0]) (rest := []) ⟨hx, hb, hml, hown, hts⟩ (k_X10_beliefOf l D cI cZ ad u p0 hc4) (cwV 1 hts (gwV mw_1020 mw_1022 mw_34 mw_59 mw_1023) rfl rfl rfl (by decide +kernel) ⟨Nat.le_of_ble_eq_true rfl, Nat.le_of_ble_eq_true rfl⟩) hK hP hD hS hA hZ (ci := 10) (q0 := 0) rfl rfl rfl hl.1 rfl (Nat.le_of_ble_eq_true rfl) dX10_wantOf_19 ⟨Nat.zero_le _, Nat.zero_le _⟩ (fun H locs hP hD hS => ?_)
    refine lv_istore_n (lv' := [(2, .int y3), (0, .ref (ad 0)), (1, .int p0)]) hx hb dX10_wantOf_22 rfl hl (by decide) rfl (fun ls hl => ?_)
    refine lv_iload_n hx hb dX10_wantOf_23 rfl (lv_at hl 0 rfl) ?_
    refine lv_iconst (v := (-1)) hx hb dX10_wantOf_24 (by decide) ?_
    obtain ⟨j68_5, ej68_5, h⟩ := gx_let h
    have hj68_5 : ∀ (z0_68 : Int32) (H : Heap) (locs : List Loc) (ls : Array Slot), j68_5 z0_68 = some r → va_P D vwCl (wM cI cZ ad u) H → va_D A (wM cI cZ ad u) → va_S A s.heap H locs → lv_has ls 5 [(0, .ref (ad 0))] → W p l e rX10_wantOf s m ([.ref (ad 0), .int p0] : List Value).toArray below meth c H locs 0 0 Q (F0 m 68 ls [.int z0_68]) := by
      intro z0_68 H locs ls h hP hD hS hl
      subst ej68_5
      refine lv_istore_n (lv' := [(3, .int z0_68), (0, .ref (ad 0))]) hx hb dX10_wantOf_68 rfl hl (by decide) rfl (fun ls hl => ?_)
      refine lv_aload_n hx hb dX10_wantOf_69 rfl (lv_at hl 1 rfl) ?_
      refine va_get (D := D) (ci := 10) (v := .int (mS_weather u)) (C := RX10) (T := TX10) (N := 32) hx hb hts iX10 hown hK hP 0 rfl rfl 18 (by decide) hf152 (fun _ h9 => h9) rfl dX10_wantOf_70 ?_
      obtain ⟨j109_6, ej109_6, h⟩ := gx_let h
      have hj109_6 : ∀ (z0_109 : Int32) (H : Heap) (locs : List Loc) (ls : Array Slot), j109_6 z0_109 = some r → va_P D vwCl (wM cI cZ ad u) H → va_D A (wM cI cZ ad u) → va_S A s.heap H locs → lv_has ls 5 [(3, .int z0_68)] → W p l e rX10_wantOf s m ([.ref (ad 0), .int p0] : List Value).toArray below meth c H locs 0 0 Q (F0 m 109 ls [.int z0_109]) := by
        intro z0_109 H locs ls h hP hD hS hl
        subst ej109_6
        refine lv_istore (lv' := [(4, .int z0_109), (3, .int z0_68)]) hx hb dX10_wantOf_109 hl (by decide) rfl (fun ls hl => ?_)
        refine lv_iload_n hx hb dX10_wantOf_111 rfl (lv_at hl 1 rfl) ?_
        refine lv_iload hx hb dX10_wantOf_112 (lv_at hl 0 rfl) ?_
        refine lv_icmp_ge (tgt := 121) hx hb dX10_wantOf_114 (by decide) (fun c7 => ?_) (fun c7 => ?_)
        · replace h := gx_t c7 h
          refine lv_iload hx hb dX10_wantOf_121 (lv_at hl 0 rfl) ?_
          cases h
          exact cc_ret hx hb hr rfl hQ hK hP hD hS rfl dX10_wantOf_123 hlocks
        · replace h := gx_f c7 h
          refine lv_iload_n hx hb dX10_wantOf_117 rfl (lv_at hl 1 rfl) ?_
          refine lv_goto (tgt := 123) hx hb dX10_wantOf_118 (by decide) ?_
          cases h
          exact cc_ret hx hb hr rfl hQ hK hP hD hS rfl dX10_wantOf_123 hlocks
      refine lv_if_ne (tgt := 81) hx hb dX10_wantOf_73 (by decide) (fun c8 => ?_) (fun c8 => ?_)
      · replace h := gx_f c8 h
        refine lv_aload_n hx hb dX10_wantOf_81 rfl (lv_at hl 1 rfl) ?_
        refine va_get (D := D) (ci := 10) (v := .int (mS_weather u)) (C := RX10) (T := TX10) (N := 32) hx hb hts iX10 hown hK hP 0 rfl rfl 18 (by decide) hf152 (fun _ h9 => h9) rfl dX10_wantOf_82 ?_
        refine lv_iconst (v := 1) hx hb dX10_wantOf_85 (by decide) ?_
        refine lv_icmp_ne (tgt := 94) hx hb dX10_wantOf_86 (by decide) (fun c9 => ?_) (fun c9 => ?_)
        · replace h := gx_f c9 h
          refine lv_aload_n hx hb dX10_wantOf_94 rfl (lv_at hl 1 rfl) ?_
          refine va_get (D := D) (ci := 10) (v := .int (mS_weather u)) (C := RX10) (T := TX10) (N := 32) hx hb hts iX10 hown hK hP 0 rfl rfl 18 (by decide) hf152 (fun _ h9 => h9) rfl dX10_wantOf_95 ?_
          refine lv_iconst (v := 2) hx hb dX10_wantOf_98 (by decide) ?_
          refine lv_icmp_ne (tgt := 107) hx hb dX10_wantOf_99 (by decide) (fun c10 => ?_) (fun c10 => ?_)
          · replace h := gx_f c10 h
            refine lv_bipush (v := 40) hx hb dX10_wantOf_107 (by decide) ?_
            exact hj109_6 (40 : Int32) _ _ _ h hP hD hS (lv_sub hl [0] rfl)
          · replace h := gx_t c10 h
            refine lv_bipush (v := 60) hx hb dX10_wantOf_102 (by decide) ?_
            refine lv_goto (tgt := 109) hx hb dX10_wantOf_104 (by decide) ?_
            exact hj109_6 (60 : Int32) _ _ _ h hP hD hS (lv_sub hl [0] rfl)
        · replace h := gx_t c9 h
          refine lv_bipush (v := 80) hx hb dX10_wantOf_89 (by decide) ?_
          refine lv_goto (tgt := 109) hx hb dX10_wantOf_91 (by decide) ?_
          exact hj109_6 (80 : Int32) _ _ _ h hP hD hS (lv_sub hl [0] rfl)
      · replace h := gx_t c8 h
        refine lv_bipush (v := 120) hx hb dX10_wantOf_76 (by decide) ?_
        refine lv_goto (tgt := 109) hx hb dX10_wantOf_78 (by decide) ?_
        exact hj109_6 (120 : Int32) _ _ _ h hP hD hS (lv_sub hl [0] rfl)
    refine lv_icmp_ne (tgt := 33) hx hb dX10_wantOf_25 (by decide) (fun c11 => ?_) (fun c11 => ?_)
    · replace h := gx_f c11 h
      refine lv_iload_n hx hb dX10_wantOf_33 rfl (lv_at hl 0 rfl) ?_
      refine lv_bipush (v := 40) hx hb dX10_wantOf_34 (by decide) ?_
      refine lv_icmp_ge (tgt := 44) hx hb dX10_wantOf_36 (by decide) (fun c12 => ?_) (fun c12 => ?_)
      · replace h := gx_t c12 h
        refine lv_iload_n hx hb dX10_wantOf_44 rfl (lv_at hl 0 rfl) ?_
        refine lv_bipush (v := 60) hx hb dX10_wantOf_45 (by decide) ?_
        refine lv_icmp_ge (tgt := 55) hx hb dX10_wantOf_47 (by decide) (fun c13 => ?_) (fun c13 => ?_)
        · replace h := gx_t c13 h
          refine lv_iload_n hx hb dX10_wantOf_55 rfl (lv_at hl 0 rfl) ?_
          refine lv_bipush (v := 80) hx hb dX10_wantOf_56 (by decide) ?_
          refine lv_icmp_ge (tgt := 66) hx hb dX10_wantOf_58 (by decide) (fun c14 => ?_) (fun c14 => ?_)
          · replace h := gx_t c14 h
            refine lv_bipush (v := 120) hx hb dX10_wantOf_66 (by decide) ?_
            exact hj68_5 (120 : Int32) _ _ _ h hP hD hS (lv_sub hl [1] rfl)
          · replace h := gx_f c14 h
            refine lv_bipush (v := 80) hx hb dX10_wantOf_61 (by decide) ?_
            refine lv_goto (tgt := 68) hx hb dX10_wantOf_63 (by decide) ?_
            exact hj68_5 (80 : Int32) _ _ _ h hP hD hS (lv_sub hl [1] rfl)
        · replace h := gx_f c13 h
          refine lv_bipush (v := 60) hx hb dX10_wantOf_50 (by decide) ?_
          refine lv_goto (tgt := 68) hx hb dX10_wantOf_52 (by decide) ?_
          exact hj68_5 (60 : Int32) _ _ _ h hP hD hS (lv_sub hl [1] rfl)
      · replace h := gx_f c12 h
        refine lv_bipush (v := 40) hx hb dX10_wantOf_39 (by decide) ?_
        refine lv_goto (tgt := 68) hx hb dX10_wantOf_41 (by decide) ?_
        exact hj68_5 (40 : Int32) _ _ _ h hP hD hS (lv_sub hl [1] rfl)
    · replace h := gx_t c11 h
      refine lv_bipush (v := 60) hx hb dX10_wantOf_28 (by decide) ?_
      refine lv_goto (tgt := 68) hx hb dX10_wantOf_30 (by decide) ?_
      exact hj68_5 (60 : Int32) _ _ _ h hP hD hS (lv_sub hl [1] rfl)
  · replace h := gx_f c2 h
    refine lv_aload_n hx hb dX10_wantOf_10 rfl (lv_at hl 0 rfl) ?_
    refine va_get (D := D) (ci := 10) (v := .ref (ad 10)) (C := RX10) (T := TX10) (N := 32) hx hb hts iX10 hown hK hP 0 rfl rfl 15 (by decide) hf38 (fun _ h9 => h9) rfl dX10_wantOf_11 ?_
    refine lv_iload_n hx hb dX10_wantOf_14 rfl (lv_at hl 1 rfl) ?_
    obtain ⟨b15, h⟩ := gx_in h
    refine va_iald (D := D) hx hb hK hP 10 0 rfl rfl b15 dX10_wantOf_15 ?_
    cases h
    exact cc_ret hx hb hr rfl hQ hK hP hD hS rfl dX10_wantOf_16 hlocks
