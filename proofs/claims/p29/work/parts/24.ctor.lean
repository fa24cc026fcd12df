abbrev I3 : Type := (Nat → Int32) × (Nat → Int32) × (Nat → Int32)
def i3_orders (u : I3) : (Nat → Int32) := u.1
def i3_orders_set (u : I3) (v : (Nat → Int32)) : I3 := (v, u.2)
def i3_told (u : I3) : (Nat → Int32) := u.2.1
def i3_told_set (u : I3) (v : (Nat → Int32)) : I3 := (u.1, (v, u.2.2))
def i3_shown (u : I3) : (Nat → Int32) := u.2.2
def i3_shown_set (u : I3) (v : (Nat → Int32)) : I3 := (u.1, (u.2.1, v))
def w_X3 (cI cZ : ClassId) (ad : Nat → Nat) (u : I3) : va_W := [(ad 0, .inr (3, [.ref (ad 1), .ref (ad 2), .ref (ad 3)])), (ad 1, .inl (cI, 48, .inl (i3_orders u))), (ad 2, .inl (cI, 48, .inl (i3_told u))), (ad 3, .inl (cI, 48, .inl (i3_shown u)))]
abbrev I6 : Type := (Nat → Int32) × (Nat → Int32)
def i6_open (u : I6) : (Nat → Int32) := u.1
def i6_open_set (u : I6) (v : (Nat → Int32)) : I6 := (v, u.2)
def i6_foundClearAt (u : I6) : (Nat → Int32) := u.2
def i6_foundClearAt_set (u : I6) (v : (Nat → Int32)) : I6 := (u.1, v)
def w_X6 (cI cZ : ClassId) (ad : Nat → Nat) (u : I6) : va_W := [(ad 0, .inr (6, [.ref (ad 1), .ref (ad 2)])), (ad 1, .inl (cZ, 12, .inl (i6_open u))), (ad 2, .inl (cI, 12, .inl (i6_foundClearAt u)))]
abbrev I7 : Type := (Nat → Int32) × (Nat → Int32) × (Nat → Int32) × Int32
def i7_limits (u : I7) : (Nat → Int32) := u.1
def i7_limits_set (u : I7) (v : (Nat → Int32)) : I7 := (v, u.2)
def i7_shown (u : I7) : (Nat → Int32) := u.2.1
def i7_shown_set (u : I7) (v : (Nat → Int32)) : I7 := (u.1, (v, u.2.2))
def i7_loweredAt (u : I7) : (Nat → Int32) := u.2.2.1
def i7_loweredAt_set (u : I7) (v : (Nat → Int32)) : I7 := (u.1, (u.2.1, (v, u.2.2.2)))
def i7_weather (u : I7) : Int32 := u.2.2.2
def i7_weather_set (u : I7) (v : Int32) : I7 := (u.1, (u.2.1, (u.2.2.1, v)))
def w_X7 (cI cZ : ClassId) (ad : Nat → Nat) (u : I7) : va_W := [(ad 0, .inr (7, [.ref (ad 1), .ref (ad 2), .ref (ad 3), .int (i7_weather u)])), (ad 1, .inl (cI, 12, .inl (i7_limits u))), (ad 2, .inl (cI, 12, .inl (i7_shown u))), (ad 3, .inl (cI, 12, .inl (i7_loweredAt u)))]
def lp_X7_init2_35 (k : I7 → Option I7) : Nat → Int32 → I7 → Option I7
  | 0, _, _ => none
  | n + 1, x1_35, w35 =>
    if (12 : Int32) ≤ x1_35 then
    k w35
    else
    g_in x1_35 12 (
    g_let (i7_limits_set w35 (upd (i7_limits w35) x1_35.toNatClampNeg (-1 : Int32))) (fun (u3 : I7) =>
    g_in x1_35 12 (
    g_let (i7_shown_set u3 (upd (i7_shown u3) x1_35.toNatClampNeg (120 : Int32))) (fun (u5 : I7) =>
    g_in x1_35 12 (
    g_let (i7_loweredAt_set u5 (upd (i7_loweredAt u5) x1_35.toNatClampNeg (-1000 : Int32))) (fun (u7 : I7) =>
    g_let (x1_35 + 1) (fun (v8 : Int32) =>
    lp_X7_init2_35 k n v8 u7)))))))
def g_X7_init2 (u : I7) : Option I7 :=
    lp_X7_init2_35 (fun (w35 : I7)  => some w35) FU (0 : Int32) u

def lp_X3_init2_30 (k : I3 → Option I3) : Nat → Int32 → I3 → Option I3
  | 0, _, _ => none
  | n + 1, x1_30, w30 =>
    if (48 : Int32) ≤ x1_30 then
    k w30
    else
    g_in x1_30 48 (
    g_let (i3_orders_set w30 (upd (i3_orders w30) x1_30.toNatClampNeg (-1 : Int32))) (fun (u3 : I3) =>
    g_let (x1_30 + 1) (fun (v4 : Int32) =>
    lp_X3_init2_30 k n v4 u3)))
def g_X3_init2 (u : I3) : Option I3 :=
    lp_X3_init2_30 (fun (w30 : I3)  => some w30) FU (0 : Int32) u

def lp_X6_init2_22 (k : I6 → Option I6) : Nat → Int32 → I6 → Option I6
  | 0, _, _ => none
  | n + 1, x1_22, w22 =>
    if (12 : Int32) ≤ x1_22 then
    k w22
    else
    g_in x1_22 12 (
    g_let (i6_foundClearAt_set w22 (upd (i6_foundClearAt w22) x1_22.toNatClampNeg (-1000 : Int32))) (fun (u3 : I6) =>
    g_let (x1_22 + 1) (fun (v4 : Int32) =>
    lp_X6_init2_22 k n v4 u3)))
def g_X6_init2 (u : I6) : Option I6 :=
    lp_X6_init2_22 (fun (w22 : I6)  => some w22) FU (0 : Int32) u

def g_X9_init2 (u : GS) : Option GS :=
    g_bind (g_X3_setAnew u (c_minute u)) (fun (y1 : GS) =>
    g_bind (g_X5_keep y1 (c_minute y1)) (fun (y3 : GS) =>
    some y3))

def rc_X8 : Room := { frames := 1, cells := 3, slots := 108, locals := 14 }
set_option maxHeartbeats 4000000 in
set_option maxRecDepth 100000 in
theorem kc_X8 (l : Launch) (D : va_G) (cI cZ : ClassId) (h0 : Nat) : MC l yX8_init (wm yX8_init cX8_init 1 none) rc_X8 D [(cI, .int), (cZ, .boolean)] [(h0, .inr (8, [.null, .null, .null, .int 0, .int 0, .int 0, .int 0]))] (fun ad => [(ad 0, .inr (8, [.ref (ad 1), .ref (ad 2), .ref (ad 3), .int 0, .int 0, .int 0, .int 0])), (ad 1, .inl (cI, 48, .inl (fun _ => 0))), (ad 2, .inl (cZ, 48, .inl (fun _ => 0))), (ad 3, .inl (cZ, 12, .inl (fun _ => 0)))]) h0 3 108 := by
  intro sz
  refine Met.ofW (cc := cX8_init) (maxL := 1) (ret := none) (by decide) rfl ?_
  intro p e s m args below meth c s₁ B hml hv
  obtain ⟨rfl, hsz, hP, hK, hD0, hZ⟩ := hv
  have hx := B.exec
  have hb := B.bytes
  have hr := B.returns
  have hts : ∀ w ∈ Wall, w.before _ s = true := fun w hw => atoms_spec (ws := wm yX8_init cX8_init 1 none) B.pre w (List.mem_cons_of_mem _ hw)
  have hown : s.vm.findClass RX8 = some m.cls := findClass_of_methodNamed B.named
  have hlocks := B.notSynchronized
  have hin : meth.name = "<init>" := (name_of_methodNamed B.named B.method).1
  subst hsz
  have hD := hD0.self (sz := s.heap.size)
  generalize hAe : va_A [(h0, .inr (8, [.null, .null, .null, .int 0, .int 0, .int 0, .int 0]))] s.heap.size = A at hD hZ ⊢
  have hA : ∀ q : Nat, s.heap.size ≤ q → A q := fun q h => by rw [← hAe]; exact Or.inr h
  have hS : va_S A s.heap s.heap [] := va_S.rf
  have hf9 := hts _ mw_50
  have hf15 := hts _ mw_52
  have hf19 := hts _ mw_54
  have hf22 := hts _ mw_56
  have hf26 := hts _ mw_58
  have hf29 := hts _ mw_60
  have hf32 := hts _ mw_62
  have hl := lv_entry ([.ref h0]) (n := 1) (Nat.le_of_ble_eq_true rfl)
  rw [lg_entry_eq]
  generalize (lg_sl ([.ref h0]) ++ List.replicate (1 - (lg_sl ([.ref h0])).length) Slot.unset).toArray = ls at hl ⊢
  replace hl : lv_has ls 1 [(0, .ref h0)] := hl
  refine w_gen (fun Q hQ => ?_)
  refine lv_aload_n hx hb dX8_init_0 rfl (lv_at hl 0 rfl) ?_
  refine W.objInit hx hb hown (hts _ mw_49) (hts _ mw_42) (hts _ mw_43) rfl (by rw [hml]; exact hl.1) rfl dX8_init_1 (Nat.le_of_ble_eq_true rfl) (Nat.le_of_ble_eq_true rfl) ?_
  refine W.eq (g2 := F0 m 4 ls []) rfl ?_
  refine lv_aload_n hx hb dX8_init_4 rfl (lv_at hl 0 rfl) ?_
  refine lv_bipush (v := 48) hx hb dX8_init_5 (by decide) ?_
  refine va_newa (atype := .int) (ty := .int) (a0 := (48, .inl (fun _ => 0))) hx hb (hts _ mw_79) rfl hK hP hD hS hA (fun _ => rfl) (by decide) (by decide) (Nat.le_of_ble_eq_true rfl) (Nat.le_of_ble_eq_true rfl) (Nat.le_of_ble_eq_true rfl) dX8_init_7 (fun q7 cA H hK9 hP hD hS => ?_)
  obtain rfl : cI = cA := cls_int hK9 0 2 rfl rfl
  clear hK9
  refine W.widen (k := 1) (n := 48) (Nat.le_of_ble_eq_true rfl) (Nat.le_of_ble_eq_true rfl) ?_
  replace hP : va_P D vwCl [(h0, .inr (8, [.null, .null, .null, .int 0, .int 0, .int 0, .int 0])), (q7, .inl (cI, 48, .inl (fun _ => 0)))] H := hP
  replace hD : va_D A [(h0, .inr (8, [.null, .null, .null, .int 0, .int 0, .int 0, .int 0])), (q7, .inl (cI, 48, .inl (fun _ => 0)))] := hD
  refine va_putF (D := D) (ci := 8) (v := .ref q7) (ty := (.array .int)) (C := RX8) (T := TX8) (N := 7) hx hb hts iX8 tyX8 tyX8_ok nmX8 hown hK hP hD hS 0 rfl rfl 0 (by decide) hf9 (fun _ h9 => h9) rfl hin rfl (by decide +kernel) rfl rfl (Nat.le_of_ble_eq_true rfl) dX8_init_9 (fun H locs hP hD hS => ?_)
  replace hP : va_P D vwCl [(h0, .inr (8, [.ref q7, .null, .null, .int 0, .int 0, .int 0, .int 0])), (q7, .inl (cI, 48, .inl (fun _ => 0)))] H := hP
  replace hD : va_D A [(h0, .inr (8, [.ref q7, .null, .null, .int 0, .int 0, .int 0, .int 0])), (q7, .inl (cI, 48, .inl (fun _ => 0)))] := hD
  refine lv_aload_n hx hb dX8_init_12 rfl (lv_at hl 0 rfl) ?_
  refine lv_bipush (v := 48) hx hb dX8_init_13 (by decide) ?_
  refine va_newa (atype := .boolean) (ty := .boolean) (a0 := (48, .inl (fun _ => 0))) hx hb (hts _ mw_80) rfl hK hP hD hS hA (fun _ => rfl) (by decide) (by decide) (Nat.le_of_ble_eq_true rfl) (Nat.le_of_ble_eq_true rfl) (Nat.le_of_ble_eq_true rfl) dX8_init_15 (fun q15 cA H hK9 hP hD hS => ?_)
  obtain rfl : cZ = cA := cls_bool hK9 1 2 rfl rfl
  clear hK9
  refine W.widen (k := 2) (n := 96) (Nat.le_of_ble_eq_true rfl) (Nat.le_of_ble_eq_true rfl) ?_
  replace hP : va_P D vwCl [(h0, .inr (8, [.ref q7, .null, .null, .int 0, .int 0, .int 0, .int 0])), (q7, .inl (cI, 48, .inl (fun _ => 0))), (q15, .inl (cZ, 48, .inl (fun _ => 0)))] H := hP
  replace hD : va_D A [(h0, .inr (8, [.ref q7, .null, .null, .int 0, .int 0, .int 0, .int 0])), (q7, .inl (cI, 48, .inl (fun _ => 0))), (q15, .inl (cZ, 48, .inl (fun _ => 0)))] := hD
  refine va_putF (D := D) (ci := 8) (v := .ref q15) (ty := (.array .boolean)) (C := RX8) (T := TX8) (N := 7) hx hb hts iX8 tyX8 tyX8_ok nmX8 hown hK hP hD hS 0 rfl rfl 1 (by decide) hf15 (fun _ h9 => h9) rfl hin rfl (by decide +kernel) rfl rfl (Nat.le_of_ble_eq_true rfl) dX8_init_17 (fun H locs hP hD hS => ?_)
  replace hP : va_P D vwCl [(h0, .inr (8, [.ref q7, .ref q15, .null, .int 0, .int 0, .int 0, .int 0])), (q7, .inl (cI, 48, .inl (fun _ => 0))), (q15, .inl (cZ, 48, .inl (fun _ => 0)))] H := hP
  replace hD : va_D A [(h0, .inr (8, [.ref q7, .ref q15, .null, .int 0, .int 0, .int 0, .int 0])), (q7, .inl (cI, 48, .inl (fun _ => 0))), (q15, .inl (cZ, 48, .inl (fun _ => 0)))] := hD
  refine lv_aload_n hx hb dX8_init_20 rfl (lv_at hl 0 rfl) ?_
  refine lv_bipush (v := 12) hx hb dX8_init_21 (by decide) ?_
  refine va_newa (atype := .boolean) (ty := .boolean) (a0 := (12, .inl (fun _ => 0))) hx hb (hts _ mw_80) rfl hK hP hD hS hA (fun _ => rfl) (by decide) (by decide) (Nat.le_of_ble_eq_true rfl) (Nat.le_of_ble_eq_true rfl) (Nat.le_of_ble_eq_true rfl) dX8_init_23 (fun q23 cA H hK9 hP hD hS => ?_)
  obtain rfl : cZ = cA := cls_bool hK9 1 2 rfl rfl
  clear hK9
  refine W.widen (k := 3) (n := 108) (Nat.le_of_ble_eq_true rfl) (Nat.le_of_ble_eq_true rfl) ?_
  replace hP : va_P D vwCl [(h0, .inr (8, [.ref q7, .ref q15, .null, .int 0, .int 0, .int 0, .int 0])), (q7, .inl (cI, 48, .inl (fun _ => 0))), (q15, .inl (cZ, 48, .inl (fun _ => 0))), (q23, .inl (cZ, 12, .inl (fun _ => 0)))] H := hP
  replace hD : va_D A [(h0, .inr (8, [.ref q7, .ref q15, .null, .int 0, .int 0, .int 0, .int 0])), (q7, .inl (cI, 48, .inl (fun _ => 0))), (q15, .inl (cZ, 48, .inl (fun _ => 0))), (q23, .inl (cZ, 12, .inl (fun _ => 0)))] := hD
  refine va_putF (D := D) (ci := 8) (v := .ref q23) (ty := (.array .boolean)) (C := RX8) (T := TX8) (N := 7) hx hb hts iX8 tyX8 tyX8_ok nmX8 hown hK hP hD hS 0 rfl rfl 2 (by decide) hf19 (fun _ h9 => h9) rfl hin rfl (by decide +kernel) rfl rfl (Nat.le_of_ble_eq_true rfl) dX8_init_25 (fun H locs hP hD hS => ?_)
  replace hP : va_P D vwCl [(h0, .inr (8, [.ref q7, .ref q15, .ref q23, .int 0, .int 0, .int 0, .int 0])), (q7, .inl (cI, 48, .inl (fun _ => 0))), (q15, .inl (cZ, 48, .inl (fun _ => 0))), (q23, .inl (cZ, 12, .inl (fun _ => 0)))] H := hP
  replace hD : va_D A [(h0, .inr (8, [.ref q7, .ref q15, .ref q23, .int 0, .int 0, .int 0, .int 0])), (q7, .inl (cI, 48, .inl (fun _ => 0))), (q15, .inl (cZ, 48, .inl (fun _ => 0))), (q23, .inl (cZ, 12, .inl (fun _ => 0)))] := hD
  refine lv_aload_n hx hb dX8_init_28 rfl (lv_at hl 0 rfl) ?_
  refine lv_iconst (v := 0) hx hb dX8_init_29 (by decide) ?_
  refine va_put (D := D) (ci := 8) (v := .int 0) (ty := .int) (C := RX8) (T := TX8) (N := 7) hx hb hts iX8 tyX8 tyX8_ok nmX8 hown hK hP hD hS 0 rfl rfl 3 (by decide) hf22 (fun _ h9 => h9) rfl (by decide +kernel) rfl rfl (Nat.le_of_ble_eq_true rfl) dX8_init_30 (fun H locs hP hD hS => ?_)
  replace hP : va_P D vwCl [(h0, .inr (8, [.ref q7, .ref q15, .ref q23, .int 0, .int 0, .int 0, .int 0])), (q7, .inl (cI, 48, .inl (fun _ => 0))), (q15, .inl (cZ, 48, .inl (fun _ => 0))), (q23, .inl (cZ, 12, .inl (fun _ => 0)))] H := hP
  replace hD : va_D A [(h0, .inr (8, [.ref q7, .ref q15, .ref q23, .int 0, .int 0, .int 0, .int 0])), (q7, .inl (cI, 48, .inl (fun _ => 0))), (q15, .inl (cZ, 48, .inl (fun _ => 0))), (q23, .inl (cZ, 12, .inl (fun _ => 0)))] := hD
  refine lv_aload_n hx hb dX8_init_33 rfl (lv_at hl 0 rfl) ?_
  refine lv_iconst (v := 0) hx hb dX8_init_34 (by decide) ?_
  refine va_put (D := D) (ci := 8) (v := .int 0) (ty := .int) (C := RX8) (T := TX8) (N := 7) hx hb hts iX8 tyX8 tyX8_ok nmX8 hown hK hP hD hS 0 rfl rfl 4 (by decide) hf26 (fun _ h9 => h9) rfl (by decide +kernel) rfl rfl (Nat.le_of_ble_eq_true rfl) dX8_init_35 (fun H locs hP hD hS => ?_)
  replace hP : va_P D vwCl [(h0, .inr (8, [.ref q7, .ref q15, .ref q23, .int 0, .int 0, .int 0, .int 0])), (q7, .inl (cI, 48, .inl (fun _ => 0))), (q15, .inl (cZ, 48, .inl (fun _ => 0))), (q23, .inl (cZ, 12, .inl (fun _ => 0)))] H := hP
  replace hD : va_D A [(h0, .inr (8, [.ref q7, .ref q15, .ref q23, .int 0, .int 0, .int 0, .int 0])), (q7, .inl (cI, 48, .inl (fun _ => 0))), (q15, .inl (cZ, 48, .inl (fun _ => 0))), (q23, .inl (cZ, 12, .inl (fun _ => 0)))] := hD
  refine lv_aload_n hx hb dX8_init_38 rfl (lv_at hl 0 rfl) ?_
  refine lv_iconst (v := 0) hx hb dX8_init_39 (by decide) ?_
  refine va_put (D := D) (ci := 8) (v := .int 0) (ty := .int) (C := RX8) (T := TX8) (N := 7) hx hb hts iX8 tyX8 tyX8_ok nmX8 hown hK hP hD hS 0 rfl rfl 5 (by decide) hf29 (fun _ h9 => h9) rfl (by decide +kernel) rfl rfl (Nat.le_of_ble_eq_true rfl) dX8_init_40 (fun H locs hP hD hS => ?_)
  replace hP : va_P D vwCl [(h0, .inr (8, [.ref q7, .ref q15, .ref q23, .int 0, .int 0, .int 0, .int 0])), (q7, .inl (cI, 48, .inl (fun _ => 0))), (q15, .inl (cZ, 48, .inl (fun _ => 0))), (q23, .inl (cZ, 12, .inl (fun _ => 0)))] H := hP
  replace hD : va_D A [(h0, .inr (8, [.ref q7, .ref q15, .ref q23, .int 0, .int 0, .int 0, .int 0])), (q7, .inl (cI, 48, .inl (fun _ => 0))), (q15, .inl (cZ, 48, .inl (fun _ => 0))), (q23, .inl (cZ, 12, .inl (fun _ => 0)))] := hD
  refine lv_aload_n hx hb dX8_init_43 rfl (lv_at hl 0 rfl) ?_
  refine lv_iconst (v := 0) hx hb dX8_init_44 (by decide) ?_
  refine va_put (D := D) (ci := 8) (v := .int 0) (ty := .int) (C := RX8) (T := TX8) (N := 7) hx hb hts iX8 tyX8 tyX8_ok nmX8 hown hK hP hD hS 0 rfl rfl 6 (by decide) hf32 (fun _ h9 => h9) rfl (by decide +kernel) rfl rfl (Nat.le_of_ble_eq_true rfl) dX8_init_45 (fun H locs hP hD hS => ?_)
  replace hP : va_P D vwCl [(h0, .inr (8, [.ref q7, .ref q15, .ref q23, .int 0, .int 0, .int 0, .int 0])), (q7, .inl (cI, 48, .inl (fun _ => 0))), (q15, .inl (cZ, 48, .inl (fun _ => 0))), (q23, .inl (cZ, 12, .inl (fun _ => 0)))] H := hP
  replace hD : va_D A [(h0, .inr (8, [.ref q7, .ref q15, .ref q23, .int 0, .int 0, .int 0, .int 0])), (q7, .inl (cI, 48, .inl (fun _ => 0))), (q15, .inl (cZ, 48, .inl (fun _ => 0))), (q23, .inl (cZ, 12, .inl (fun _ => 0)))] := hD
  exact cc_cret (fun k => ([h0, q7, q15, q23] : List Nat).getD k 0) hx hb hr hQ hK rfl rfl (hP.sub [0, 1, 2, 3] rfl) (hD.sub [0, 1, 2, 3] (by decide) rfl) hS dX8_init_48 hlocks

def rc_X1 : Room := { frames := 1, cells := 2, slots := 24, locals := 14 }
set_option maxHeartbeats 4000000 in
set_option maxRecDepth 100000 in
theorem kc_X1 (l : Launch) (D : va_G) (cI cZ : ClassId) (h0 : Nat) : MC l yX1_init (wm yX1_init cX1_init 1 none) rc_X1 D [(cI, .int), (cZ, .boolean)] [(h0, .inr (1, [.null, .null]))] (fun ad => [(ad 0, .inr (1, [.ref (ad 1), .ref (ad 2)])), (ad 1, .inl (cI, 12, .inl (fun _ => 0))), (ad 2, .inl (cI, 12, .inl (fun _ => 0)))]) h0 2 24 := by
  intro sz
  refine Met.ofW (cc := cX1_init) (maxL := 1) (ret := none) (by decide) rfl ?_
  intro p e s m args below meth c s₁ B hml hv
  obtain ⟨rfl, hsz, hP, hK, hD0, hZ⟩ := hv
  have hx := B.exec
  have hb := B.bytes
  have hr := B.returns
  have hts : ∀ w ∈ Wall, w.before _ s = true := fun w hw => atoms_spec (ws := wm yX1_init cX1_init 1 none) B.pre w (List.mem_cons_of_mem _ hw)
  have hown : s.vm.findClass RX1 = some m.cls := findClass_of_methodNamed B.named
  have hlocks := B.notSynchronized
  have hin : meth.name = "<init>" := (name_of_methodNamed B.named B.method).1
  subst hsz
  have hD := hD0.self (sz := s.heap.size)
  generalize hAe : va_A [(h0, .inr (1, [.null, .null]))] s.heap.size = A at hD hZ ⊢
  have hA : ∀ q : Nat, s.heap.size ≤ q → A q := fun q h => by rw [← hAe]; exact Or.inr h
  have hS : va_S A s.heap s.heap [] := va_S.rf
  have hf9 := hts _ mw_87
  have hf15 := hts _ mw_89
  have hl := lv_entry ([.ref h0]) (n := 1) (Nat.le_of_ble_eq_true rfl)
  rw [lg_entry_eq]
  generalize (lg_sl ([.ref h0]) ++ List.replicate (1 - (lg_sl ([.ref h0])).length) Slot.unset).toArray = ls at hl ⊢
  replace hl : lv_has ls 1 [(0, .ref h0)] := hl
  refine w_gen (fun Q hQ => ?_)
  refine lv_aload_n hx hb dX1_init_0 rfl (lv_at hl 0 rfl) ?_
  refine W.objInit hx hb hown (hts _ mw_86) (hts _ mw_42) (hts _ mw_43) rfl (by rw [hml]; exact hl.1) rfl dX1_init_1 (Nat.le_of_ble_eq_true rfl) (Nat.le_of_ble_eq_true rfl) ?_
  refine W.eq (g2 := F0 m 4 ls []) rfl ?_
  refine lv_aload_n hx hb dX1_init_4 rfl (lv_at hl 0 rfl) ?_
  refine lv_bipush (v := 12) hx hb dX1_init_5 (by decide) ?_
  refine va_newa (atype := .int) (ty := .int) (a0 := (12, .inl (fun _ => 0))) hx hb (hts _ mw_79) rfl hK hP hD hS hA (fun _ => rfl) (by decide) (by decide) (Nat.le_of_ble_eq_true rfl) (Nat.le_of_ble_eq_true rfl) (Nat.le_of_ble_eq_true rfl) dX1_init_7 (fun q7 cA H hK9 hP hD hS => ?_)
  obtain rfl : cI = cA := cls_int hK9 0 2 rfl rfl
  clear hK9
  refine W.widen (k := 1) (n := 12) (Nat.le_of_ble_eq_true rfl) (Nat.le_of_ble_eq_true rfl) ?_
  replace hP : va_P D vwCl [(h0, .inr (1, [.null, .null])), (q7, .inl (cI, 12, .inl (fun _ => 0)))] H := hP
  replace hD : va_D A [(h0, .inr (1, [.null, .null])), (q7, .inl (cI, 12, .inl (fun _ => 0)))] := hD
  refine va_putF (D := D) (ci := 1) (v := .ref q7) (ty := (.array .int)) (C := RX1) (T := TX1) (N := 2) hx hb hts iX1 tyX1 tyX1_ok nmX1 hown hK hP hD hS 0 rfl rfl 0 (by decide) hf9 (fun _ h9 => h9) rfl hin rfl (by decide +kernel) rfl rfl (Nat.le_of_ble_eq_true rfl) dX1_init_9 (fun H locs hP hD hS => ?_)
  replace hP : va_P D vwCl [(h0, .inr (1, [.ref q7, .null])), (q7, .inl (cI, 12, .inl (fun _ => 0)))] H := hP
  replace hD : va_D A [(h0, .inr (1, [.ref q7, .null])), (q7, .inl (cI, 12, .inl (fun _ => 0)))] := hD
  refine lv_aload_n hx hb dX1_init_12 rfl (lv_at hl 0 rfl) ?_
  refine lv_bipush (v := 12) hx hb dX1_init_13 (by decide) ?_
  refine va_newa (atype := .int) (ty := .int) (a0 := (12, .inl (fun _ => 0))) hx hb (hts _ mw_79) rfl hK hP hD hS hA (fun _ => rfl) (by decide) (by decide) (Nat.le_of_ble_eq_true rfl) (Nat.le_of_ble_eq_true rfl) (Nat.le_of_ble_eq_true rfl) dX1_init_15 (fun q15 cA H hK9 hP hD hS => ?_)
  obtain rfl : cI = cA := cls_int hK9 0 2 rfl rfl
  clear hK9
  refine W.widen (k := 2) (n := 24) (Nat.le_of_ble_eq_true rfl) (Nat.le_of_ble_eq_true rfl) ?_
  replace hP : va_P D vwCl [(h0, .inr (1, [.ref q7, .null])), (q7, .inl (cI, 12, .inl (fun _ => 0))), (q15, .inl (cI, 12, .inl (fun _ => 0)))] H := hP
  replace hD : va_D A [(h0, .inr (1, [.ref q7, .null])), (q7, .inl (cI, 12, .inl (fun _ => 0))), (q15, .inl (cI, 12, .inl (fun _ => 0)))] := hD
  refine va_putF (D := D) (ci := 1) (v := .ref q15) (ty := (.array .int)) (C := RX1) (T := TX1) (N := 2) hx hb hts iX1 tyX1 tyX1_ok nmX1 hown hK hP hD hS 0 rfl rfl 1 (by decide) hf15 (fun _ h9 => h9) rfl hin rfl (by decide +kernel) rfl rfl (Nat.le_of_ble_eq_true rfl) dX1_init_17 (fun H locs hP hD hS => ?_)
  replace hP : va_P D vwCl [(h0, .inr (1, [.ref q7, .ref q15])), (q7, .inl (cI, 12, .inl (fun _ => 0))), (q15, .inl (cI, 12, .inl (fun _ => 0)))] H := hP
  replace hD : va_D A [(h0, .inr (1, [.ref q7, .ref q15])), (q7, .inl (cI, 12, .inl (fun _ => 0))), (q15, .inl (cI, 12, .inl (fun _ => 0)))] := hD
  exact cc_cret (fun k => ([h0, q7, q15] : List Nat).getD k 0) hx hb hr hQ hK rfl rfl (hP.sub [0, 1, 2] rfl) (hD.sub [0, 1, 2] (by decide) rfl) hS dX1_init_20 hlocks

def rc_X7 : Room := { frames := 1, cells := 3, slots := 36, locals := 14 }
def u0_X7 : I7 := ((fun _ => 0), (fun _ => 0), (fun _ => 0), (0 : Int32))
set_option maxHeartbeats 4000000 in
set_option maxRecDepth 100000 in
theorem kc_X7 (l : Launch) (D : va_G) (cI cZ : ClassId) (h0 : Nat) (w' : I7) (h : g_X7_init2 (u0_X7) = some w') : MC l yX7_init (wm yX7_init cX7_init 2 none) rc_X7 D [(cI, .int), (cZ, .boolean)] [(h0, .inr (7, [.null, .null, .null, .int 0]))] (fun ad => w_X7 cI cZ ad w') h0 3 36 := by
  intro sz
  refine Met.ofW (cc := cX7_init) (maxL := 2) (ret := none) (by decide) rfl ?_
  intro p e s m args below meth c s₁ B hml hv
  obtain ⟨rfl, hsz, hP, hK, hD0, hZ⟩ := hv
  have hx := B.exec
  have hb := B.bytes
  have hr := B.returns
  have hts : ∀ w ∈ Wall, w.before _ s = true := fun w hw => atoms_spec (ws := wm yX7_init cX7_init 2 none) B.pre w (List.mem_cons_of_mem _ hw)
  have hown : s.vm.findClass RX7 = some m.cls := findClass_of_methodNamed B.named
  have hlocks := B.notSynchronized
  have hin : meth.name = "<init>" := (name_of_methodNamed B.named B.method).1
  subst hsz
  have hD := hD0.self (sz := s.heap.size)
  generalize hAe : va_A [(h0, .inr (7, [.null, .null, .null, .int 0]))] s.heap.size = A at hD hZ ⊢
  have hA : ∀ q : Nat, s.heap.size ≤ q → A q := fun q h => by rw [← hAe]; exact Or.inr h
  have hS : va_S A s.heap s.heap [] := va_S.rf
  have hf9 := hts _ mw_102
  have hf15 := hts _ mw_104
  have hf18 := hts _ mw_106
  have hf21 := hts _ mw_107
  have hl := lv_entry ([.ref h0]) (n := 2) (Nat.le_of_ble_eq_true rfl)
  rw [lg_entry_eq]
  generalize (lg_sl ([.ref h0]) ++ List.replicate (2 - (lg_sl ([.ref h0])).length) Slot.unset).toArray = ls at hl ⊢
  replace hl : lv_has ls 2 [(0, .ref h0)] := hl
  refine w_gen (fun Q hQ => ?_)
  refine lv_aload_n hx hb dX7_init_0 rfl (lv_at hl 0 rfl) ?_
  refine W.objInit hx hb hown (hts _ mw_101) (hts _ mw_42) (hts _ mw_43) rfl (by rw [hml]; exact hl.1) rfl dX7_init_1 (Nat.le_of_ble_eq_true rfl) (Nat.le_of_ble_eq_true rfl) ?_
  refine W.eq (g2 := F0 m 4 ls []) rfl ?_
  refine lv_aload_n hx hb dX7_init_4 rfl (lv_at hl 0 rfl) ?_
  refine lv_bipush (v := 12) hx hb dX7_init_5 (by decide) ?_
  refine va_newa (atype := .int) (ty := .int) (a0 := (12, .inl (fun _ => 0))) hx hb (hts _ mw_79) rfl hK hP hD hS hA (fun _ => rfl) (by decide) (by decide) (Nat.le_of_ble_eq_true rfl) (Nat.le_of_ble_eq_true rfl) (Nat.le_of_ble_eq_true rfl) dX7_init_7 (fun q7 cA H hK9 hP hD hS => ?_)
  obtain rfl : cI = cA := cls_int hK9 0 2 rfl rfl
  clear hK9
  refine W.widen (k := 1) (n := 12) (Nat.le_of_ble_eq_true rfl) (Nat.le_of_ble_eq_true rfl) ?_
  replace hP : va_P D vwCl [(h0, .inr (7, [.null, .null, .null, .int 0])), (q7, .inl (cI, 12, .inl (fun _ => 0)))] H := hP
  replace hD : va_D A [(h0, .inr (7, [.null, .null, .null, .int 0])), (q7, .inl (cI, 12, .inl (fun _ => 0)))] := hD
  refine va_putF (D := D) (ci := 7) (v := .ref q7) (ty := (.array .int)) (C := RX7) (T := TX7) (N := 4) hx hb hts iX7 tyX7 tyX7_ok nmX7 hown hK hP hD hS 0 rfl rfl 0 (by decide) hf9 (fun _ h9 => h9) rfl hin rfl (by decide +kernel) rfl rfl (Nat.le_of_ble_eq_true rfl) dX7_init_9 (fun H locs hP hD hS => ?_)
  replace hP : va_P D vwCl [(h0, .inr (7, [.ref q7, .null, .null, .int 0])), (q7, .inl (cI, 12, .inl (fun _ => 0)))] H := hP
  replace hD : va_D A [(h0, .inr (7, [.ref q7, .null, .null, .int 0])), (q7, .inl (cI, 12, .inl (fun _ => 0)))] := hD
  refine lv_aload_n hx hb dX7_init_12 rfl (lv_at hl 0 rfl) ?_
  refine lv_bipush (v := 12) hx hb dX7_init_13 (by decide) ?_
  refine va_newa (atype := .int) (ty := .int) (a0 := (12, .inl (fun _ => 0))) hx hb (hts _ mw_79) rfl hK hP hD hS hA (fun _ => rfl) (by decide) (by decide) (Nat.le_of_ble_eq_true rfl) (Nat.le_of_ble_eq_true rfl) (Nat.le_of_ble_eq_true rfl) dX7_init_15 (fun q15 cA H hK9 hP hD hS => ?_)
  obtain rfl : cI = cA := cls_int hK9 0 2 rfl rfl
  clear hK9
  refine W.widen (k := 2) (n := 24) (Nat.le_of_ble_eq_true rfl) (Nat.le_of_ble_eq_true rfl) ?_
  replace hP : va_P D vwCl [(h0, .inr (7, [.ref q7, .null, .null, .int 0])), (q7, .inl (cI, 12, .inl (fun _ => 0))), (q15, .inl (cI, 12, .inl (fun _ => 0)))] H := hP
  replace hD : va_D A [(h0, .inr (7, [.ref q7, .null, .null, .int 0])), (q7, .inl (cI, 12, .inl (fun _ => 0))), (q15, .inl (cI, 12, .inl (fun _ => 0)))] := hD
  refine va_putF (D := D) (ci := 7) (v := .ref q15) (ty := (.array .int)) (C := RX7) (T := TX7) (N := 4) hx hb hts iX7 tyX7 tyX7_ok nmX7 hown hK hP hD hS 0 rfl rfl 1 (by decide) hf15 (fun _ h9 => h9) rfl hin rfl (by decide +kernel) rfl rfl (Nat.le_of_ble_eq_true rfl) dX7_init_17 (fun H locs hP hD hS => ?_)
  replace hP : va_P D vwCl [(h0, .inr (7, [.ref q7, .ref q15, .null, .int 0])), (q7, .inl (cI, 12, .inl (fun _ => 0))), (q15, .inl (cI, 12, .inl (fun _ => 0)))] H := hP
  replace hD : va_D A [(h0, .inr (7, [.ref q7, .ref q15, .null, .int 0])), (q7, .inl (cI, 12, .inl (fun _ => 0))), (q15, .inl (cI, 12, .inl (fun _ => 0)))] := hD
  refine lv_aload_n hx hb dX7_init_20 rfl (lv_at hl 0 rfl) ?_
  refine lv_bipush (v := 12) hx hb dX7_init_21 (by decide) ?_
  refine va_newa (atype := .int) (ty := .int) (a0 := (12, .inl (fun _ => 0))) hx hb (hts _ mw_79) rfl hK hP hD hS hA (fun _ => rfl) (by decide) (by decide) (Nat.le_of_ble_eq_true rfl) (Nat.le_of_ble_eq_true rfl) (Nat.le_of_ble_eq_true rfl) dX7_init_23 (fun q23 cA H hK9 hP hD hS => ?_)
  obtain rfl : cI = cA := cls_int hK9 0 2 rfl rfl
  clear hK9
  refine W.widen (k := 3) (n := 36) (Nat.le_of_ble_eq_true rfl) (Nat.le_of_ble_eq_true rfl) ?_
  replace hP : va_P D vwCl [(h0, .inr (7, [.ref q7, .ref q15, .null, .int 0])), (q7, .inl (cI, 12, .inl (fun _ => 0))), (q15, .inl (cI, 12, .inl (fun _ => 0))), (q23, .inl (cI, 12, .inl (fun _ => 0)))] H := hP
  replace hD : va_D A [(h0, .inr (7, [.ref q7, .ref q15, .null, .int 0])), (q7, .inl (cI, 12, .inl (fun _ => 0))), (q15, .inl (cI, 12, .inl (fun _ => 0))), (q23, .inl (cI, 12, .inl (fun _ => 0)))] := hD
  refine va_putF (D := D) (ci := 7) (v := .ref q23) (ty := (.array .int)) (C := RX7) (T := TX7) (N := 4) hx hb hts iX7 tyX7 tyX7_ok nmX7 hown hK hP hD hS 0 rfl rfl 2 (by decide) hf18 (fun _ h9 => h9) rfl hin rfl (by decide +kernel) rfl rfl (Nat.le_of_ble_eq_true rfl) dX7_init_25 (fun H locs hP hD hS => ?_)
  replace hP : va_P D vwCl [(h0, .inr (7, [.ref q7, .ref q15, .ref q23, .int 0])), (q7, .inl (cI, 12, .inl (fun _ => 0))), (q15, .inl (cI, 12, .inl (fun _ => 0))), (q23, .inl (cI, 12, .inl (fun _ => 0)))] H := hP
  replace hD : va_D A [(h0, .inr (7, [.ref q7, .ref q15, .ref q23, .int 0])), (q7, .inl (cI, 12, .inl (fun _ => 0))), (q15, .inl (cI, 12, .inl (fun _ => 0))), (q23, .inl (cI, 12, .inl (fun _ => 0)))] := hD
  refine lv_aload_n hx hb dX7_init_28 rfl (lv_at hl 0 rfl) ?_
  refine lv_iconst (v := 0) hx hb dX7_init_29 (by decide) ?_
  refine va_put (D := D) (ci := 7) (v := .int 0) (ty := .int) (C := RX7) (T := TX7) (N := 4) hx hb hts iX7 tyX7 tyX7_ok nmX7 hown hK hP hD hS 0 rfl rfl 3 (by decide) hf21 (fun _ h9 => h9) rfl (by decide +kernel) rfl rfl (Nat.le_of_ble_eq_true rfl) dX7_init_30 (fun H locs hP hD hS => ?_)
  replace hP : va_P D vwCl [(h0, .inr (7, [.ref q7, .ref q15, .ref q23, .int 0])), (q7, .inl (cI, 12, .inl (fun _ => 0))), (q15, .inl (cI, 12, .inl (fun _ => 0))), (q23, .inl (cI, 12, .inl (fun _ => 0)))] H := hP
  replace hD : va_D A [(h0, .inr (7, [.ref q7, .ref q15, .ref q23, .int 0])), (q7, .inl (cI, 12, .inl (fun _ => 0))), (q15, .inl (cI, 12, .inl (fun _ => 0))), (q23, .inl (cI, 12, .inl (fun _ => 0)))] := hD
  obtain ⟨ad, ead⟩ : ∃ z : Nat → Nat, z = (fun k => ([h0, q7, q15, q23] : List Nat).getD k 0) := ⟨_, rfl⟩
  have had0 : ad 0 = h0 := by rw [ead]; rfl
  replace hP : va_P D vwCl (w_X7 cI cZ ad (u0_X7)) H := by rw [ead]; exact hP.sub [0, 1, 2, 3] rfl
  replace hD : va_D A (w_X7 cI cZ ad (u0_X7)) := by rw [ead]; exact hD.sub [0, 1, 2, 3] (by decide) rfl
  replace hl : lv_has ls 2 [(0, .ref (ad 0))] := by rw [had0]; exact hl
  generalize u0_X7 = u at h hP hD
  refine lv_iconst (v := 0) hx hb dX7_init_33 (by decide) ?_
  refine lv_istore_n (lv' := [(1, .int (0 : Int32)), (0, .ref (ad 0))]) hx hb dX7_init_34 rfl hl (by decide) rfl (fun ls hl => ?_)
  have hL35 : ∀ (k : I7 → Option I7) (hk : ∀ (w35 : I7) (H : Heap) (locs : List Loc) (ls : Array Slot), k w35 = some w' → va_P D vwCl (w_X7 cI cZ ad w35) H → va_D A (w_X7 cI cZ ad w35) → va_S A s.heap H locs → lv_has ls 2 [] → W p l e rc_X7 s m ([.ref h0] : List Value).toArray below meth c H locs 3 36 Q (F0 m 71 ls [])) (n : Nat) (x1_35 : Int32) (w35 : I7) (H : Heap) (locs : List Loc) (ls : Array Slot), lp_X7_init2_35 k n x1_35 w35 = some w' → va_P D vwCl (w_X7 cI cZ ad w35) H → va_D A (w_X7 cI cZ ad w35) → va_S A s.heap H locs → lv_has ls 2 [(0, .ref (ad 0)), (1, .int x1_35)] → W p l e rc_X7 s m ([.ref h0] : List Value).toArray below meth c H locs 3 36 Q (F0 m 35 ls []) := by
    intro k hk n
    induction n with
    | zero =>
      intro x1_35 w35 H locs ls h
      rw [lp_X7_init2_35] at h
      cases h
    | succ n ih =>
      intro x1_35 w35 H locs ls h hP hD hS hl
      rw [lp_X7_init2_35] at h
      refine lv_iload_n hx hb dX7_init_35 rfl (lv_at hl 1 rfl) ?_
      refine lv_bipush (v := 12) hx hb dX7_init_36 (by decide) ?_
      refine lv_icmp_ge (tgt := 71) hx hb dX7_init_38 (by decide) (fun c1 => ?_) (fun c1 => ?_)
      · replace h := gx_t c1 h
        exact hk w35 _ _ _ h hP hD hS (lv_sub hl [] rfl)
      · replace h := gx_f c1 h
        refine lv_aload_n hx hb dX7_init_41 rfl (lv_at hl 0 rfl) ?_
        refine va_get (D := D) (ci := 7) (v := .ref (ad 1)) (C := RX7) (T := TX7) (N := 4) hx hb hts iX7 hown hK hP 0 rfl rfl 0 (by decide) hf9 (fun _ h9 => h9) rfl dX7_init_42 ?_
        refine lv_iload_n hx hb dX7_init_45 rfl (lv_at hl 1 rfl) ?_
        refine lv_iconst (v := (-1)) hx hb dX7_init_46 (by decide) ?_
        obtain ⟨b2, h⟩ := gx_in h
        refine va_iast (D := D) hx hb hK hP hD hS 1 0 rfl rfl b2 dX7_init_47 (fun H locs hP hD hS => ?_)
        obtain ⟨u3, eu3, h⟩ := gx_let h
        replace hP : va_P D vwCl (w_X7 cI cZ ad u3) H := by rw [← eu3]; exact hP
        replace hD : va_D A (w_X7 cI cZ ad u3) := by rw [← eu3]; exact hD
        refine lv_aload_n hx hb dX7_init_48 rfl (lv_at hl 0 rfl) ?_
        refine va_get (D := D) (ci := 7) (v := .ref (ad 2)) (C := RX7) (T := TX7) (N := 4) hx hb hts iX7 hown hK hP 0 rfl rfl 1 (by decide) hf15 (fun _ h9 => h9) rfl dX7_init_49 ?_
        refine lv_iload_n hx hb dX7_init_52 rfl (lv_at hl 1 rfl) ?_
        refine lv_bipush (v := 120) hx hb dX7_init_53 (by decide) ?_
        obtain ⟨b4, h⟩ := gx_in h
        refine va_iast (D := D) hx hb hK hP hD hS 2 0 rfl rfl b4 dX7_init_55 (fun H locs hP hD hS => ?_)
        obtain ⟨u5, eu5, h⟩ := gx_let h
        replace hP : va_P D vwCl (w_X7 cI cZ ad u5) H := by rw [← eu5]; exact hP
        replace hD : va_D A (w_X7 cI cZ ad u5) := by rw [← eu5]; exact hD
        refine lv_aload_n hx hb dX7_init_56 rfl (lv_at hl 0 rfl) ?_
        refine va_get (D := D) (ci := 7) (v := .ref (ad 3)) (C := RX7) (T := TX7) (N := 4) hx hb hts iX7 hown hK hP 0 rfl rfl 2 (by decide) hf18 (fun _ h9 => h9) rfl dX7_init_57 ?_
        refine lv_iload_n hx hb dX7_init_60 rfl (lv_at hl 1 rfl) ?_
        refine lv_sipush (v := (-1000)) hx hb dX7_init_61 (by decide) ?_
        obtain ⟨b6, h⟩ := gx_in h
        refine va_iast (D := D) hx hb hK hP hD hS 3 0 rfl rfl b6 dX7_init_64 (fun H locs hP hD hS => ?_)
        obtain ⟨u7, eu7, h⟩ := gx_let h
        replace hP : va_P D vwCl (w_X7 cI cZ ad u7) H := by rw [← eu7]; exact hP
        replace hD : va_D A (w_X7 cI cZ ad u7) := by rw [← eu7]; exact hD
        obtain ⟨v8, ev8, h⟩ := gx_let h
        refine lv_iinc (v := v8) (lv' := [(1, .int v8), (0, .ref (ad 0))]) hx hb dX7_init_65 hl (k := 1) rfl (by rw [← ev8]; rfl) (by decide) rfl (fun ls hl => ?_)
        refine lv_goto (tgt := 35) hx hb dX7_init_68 (by decide) ?_
        exact ih v8 u7 _ _ _ h hP hD hS (lv_sub hl [1, 0] rfl)
  refine hL35 _ (fun w35 H locs ls h hP hD hS hl => ?_) FU (0 : Int32) u _ _ _ h hP hD hS (lv_sub hl [1, 0] rfl)
  cases h
  exact cc_cret ad hx hb hr hQ hK had0 rfl hP hD hS dX7_init_71 hlocks

def rc_X3 : Room := { frames := 1, cells := 3, slots := 144, locals := 14 }
def u0_X3 : I3 := ((fun _ => 0), (fun _ => 0), (fun _ => 0))
set_option maxHeartbeats 4000000 in
set_option maxRecDepth 100000 in
theorem kc_X3 (l : Launch) (D : va_G) (cI cZ : ClassId) (h0 : Nat) (w' : I3) (h : g_X3_init2 (u0_X3) = some w') : MC l yX3_init (wm yX3_init cX3_init 2 none) rc_X3 D [(cI, .int), (cZ, .boolean)] [(h0, .inr (3, [.null, .null, .null]))] (fun ad => w_X3 cI cZ ad w') h0 3 144 := by
  intro sz
  refine Met.ofW (cc := cX3_init) (maxL := 2) (ret := none) (by decide) rfl ?_
  intro p e s m args below meth c s₁ B hml hv
  obtain ⟨rfl, hsz, hP, hK, hD0, hZ⟩ := hv
  have hx := B.exec
  have hb := B.bytes
  have hr := B.returns
  have hts : ∀ w ∈ Wall, w.before _ s = true := fun w hw => atoms_spec (ws := wm yX3_init cX3_init 2 none) B.pre w (List.mem_cons_of_mem _ hw)
  have hown : s.vm.findClass RX3 = some m.cls := findClass_of_methodNamed B.named
  have hlocks := B.notSynchronized
  have hin : meth.name = "<init>" := (name_of_methodNamed B.named B.method).1
  subst hsz
  have hD := hD0.self (sz := s.heap.size)
  generalize hAe : va_A [(h0, .inr (3, [.null, .null, .null]))] s.heap.size = A at hD hZ ⊢
  have hA : ∀ q : Nat, s.heap.size ≤ q → A q := fun q h => by rw [← hAe]; exact Or.inr h
  have hS : va_S A s.heap s.heap [] := va_S.rf
  have hf9 := hts _ mw_124
  have hf15 := hts _ mw_126
  have hf18 := hts _ mw_127
  have hl := lv_entry ([.ref h0]) (n := 2) (Nat.le_of_ble_eq_true rfl)
  rw [lg_entry_eq]
  generalize (lg_sl ([.ref h0]) ++ List.replicate (2 - (lg_sl ([.ref h0])).length) Slot.unset).toArray = ls at hl ⊢
  replace hl : lv_has ls 2 [(0, .ref h0)] := hl
  refine w_gen (fun Q hQ => ?_)
  refine lv_aload_n hx hb dX3_init_0 rfl (lv_at hl 0 rfl) ?_
  refine W.objInit hx hb hown (hts _ mw_123) (hts _ mw_42) (hts _ mw_43) rfl (by rw [hml]; exact hl.1) rfl dX3_init_1 (Nat.le_of_ble_eq_true rfl) (Nat.le_of_ble_eq_true rfl) ?_
  refine W.eq (g2 := F0 m 4 ls []) rfl ?_
  refine lv_aload_n hx hb dX3_init_4 rfl (lv_at hl 0 rfl) ?_
  refine lv_bipush (v := 48) hx hb dX3_init_5 (by decide) ?_
  refine va_newa (atype := .int) (ty := .int) (a0 := (48, .inl (fun _ => 0))) hx hb (hts _ mw_79) rfl hK hP hD hS hA (fun _ => rfl) (by decide) (by decide) (Nat.le_of_ble_eq_true rfl) (Nat.le_of_ble_eq_true rfl) (Nat.le_of_ble_eq_true rfl) dX3_init_7 (fun q7 cA H hK9 hP hD hS => ?_)
  obtain rfl : cI = cA := cls_int hK9 0 2 rfl rfl
  clear hK9
  refine W.widen (k := 1) (n := 48) (Nat.le_of_ble_eq_true rfl) (Nat.le_of_ble_eq_true rfl) ?_
  replace hP : va_P D vwCl [(h0, .inr (3, [.null, .null, .null])), (q7, .inl (cI, 48, .inl (fun _ => 0)))] H := hP
  replace hD : va_D A [(h0, .inr (3, [.null, .null, .null])), (q7, .inl (cI, 48, .inl (fun _ => 0)))] := hD
  refine va_putF (D := D) (ci := 3) (v := .ref q7) (ty := (.array .int)) (C := RX3) (T := TX3) (N := 3) hx hb hts iX3 tyX3 tyX3_ok nmX3 hown hK hP hD hS 0 rfl rfl 0 (by decide) hf9 (fun _ h9 => h9) rfl hin rfl (by decide +kernel) rfl rfl (Nat.le_of_ble_eq_true rfl) dX3_init_9 (fun H locs hP hD hS => ?_)
  replace hP : va_P D vwCl [(h0, .inr (3, [.ref q7, .null, .null])), (q7, .inl (cI, 48, .inl (fun _ => 0)))] H := hP
  replace hD : va_D A [(h0, .inr (3, [.ref q7, .null, .null])), (q7, .inl (cI, 48, .inl (fun _ => 0)))] := hD
  refine lv_aload_n hx hb dX3_init_12 rfl (lv_at hl 0 rfl) ?_
  refine lv_bipush (v := 48) hx hb dX3_init_13 (by decide) ?_
  refine va_newa (atype := .int) (ty := .int) (a0 := (48, .inl (fun _ => 0))) hx hb (hts _ mw_79) rfl hK hP hD hS hA (fun _ => rfl) (by decide) (by decide) (Nat.le_of_ble_eq_true rfl) (Nat.le_of_ble_eq_true rfl) (Nat.le_of_ble_eq_true rfl) dX3_init_15 (fun q15 cA H hK9 hP hD hS => ?_)
  obtain rfl : cI = cA := cls_int hK9 0 2 rfl rfl
  clear hK9
  refine W.widen (k := 2) (n := 96) (Nat.le_of_ble_eq_true rfl) (Nat.le_of_ble_eq_true rfl) ?_
  replace hP : va_P D vwCl [(h0, .inr (3, [.ref q7, .null, .null])), (q7, .inl (cI, 48, .inl (fun _ => 0))), (q15, .inl (cI, 48, .inl (fun _ => 0)))] H := hP
  replace hD : va_D A [(h0, .inr (3, [.ref q7, .null, .null])), (q7, .inl (cI, 48, .inl (fun _ => 0))), (q15, .inl (cI, 48, .inl (fun _ => 0)))] := hD
  refine va_putF (D := D) (ci := 3) (v := .ref q15) (ty := (.array .int)) (C := RX3) (T := TX3) (N := 3) hx hb hts iX3 tyX3 tyX3_ok nmX3 hown hK hP hD hS 0 rfl rfl 1 (by decide) hf15 (fun _ h9 => h9) rfl hin rfl (by decide +kernel) rfl rfl (Nat.le_of_ble_eq_true rfl) dX3_init_17 (fun H locs hP hD hS => ?_)
  replace hP : va_P D vwCl [(h0, .inr (3, [.ref q7, .ref q15, .null])), (q7, .inl (cI, 48, .inl (fun _ => 0))), (q15, .inl (cI, 48, .inl (fun _ => 0)))] H := hP
  replace hD : va_D A [(h0, .inr (3, [.ref q7, .ref q15, .null])), (q7, .inl (cI, 48, .inl (fun _ => 0))), (q15, .inl (cI, 48, .inl (fun _ => 0)))] := hD
  refine lv_aload_n hx hb dX3_init_20 rfl (lv_at hl 0 rfl) ?_
  refine lv_bipush (v := 48) hx hb dX3_init_21 (by decide) ?_
  refine va_newa (atype := .int) (ty := .int) (a0 := (48, .inl (fun _ => 0))) hx hb (hts _ mw_79) rfl hK hP hD hS hA (fun _ => rfl) (by decide) (by decide) (Nat.le_of_ble_eq_true rfl) (Nat.le_of_ble_eq_true rfl) (Nat.le_of_ble_eq_true rfl) dX3_init_23 (fun q23 cA H hK9 hP hD hS => ?_)
  obtain rfl : cI = cA := cls_int hK9 0 2 rfl rfl
  clear hK9
  refine W.widen (k := 3) (n := 144) (Nat.le_of_ble_eq_true rfl) (Nat.le_of_ble_eq_true rfl) ?_
  replace hP : va_P D vwCl [(h0, .inr (3, [.ref q7, .ref q15, .null])), (q7, .inl (cI, 48, .inl (fun _ => 0))), (q15, .inl (cI, 48, .inl (fun _ => 0))), (q23, .inl (cI, 48, .inl (fun _ => 0)))] H := hP
  replace hD : va_D A [(h0, .inr (3, [.ref q7, .ref q15, .null])), (q7, .inl (cI, 48, .inl (fun _ => 0))), (q15, .inl (cI, 48, .inl (fun _ => 0))), (q23, .inl (cI, 48, .inl (fun _ => 0)))] := hD
  refine va_putF (D := D) (ci := 3) (v := .ref q23) (ty := (.array .int)) (C := RX3) (T := TX3) (N := 3) hx hb hts iX3 tyX3 tyX3_ok nmX3 hown hK hP hD hS 0 rfl rfl 2 (by decide) hf18 (fun _ h9 => h9) rfl hin rfl (by decide +kernel) rfl rfl (Nat.le_of_ble_eq_true rfl) dX3_init_25 (fun H locs hP hD hS => ?_)
  replace hP : va_P D vwCl [(h0, .inr (3, [.ref q7, .ref q15, .ref q23])), (q7, .inl (cI, 48, .inl (fun _ => 0))), (q15, .inl (cI, 48, .inl (fun _ => 0))), (q23, .inl (cI, 48, .inl (fun _ => 0)))] H := hP
  replace hD : va_D A [(h0, .inr (3, [.ref q7, .ref q15, .ref q23])), (q7, .inl (cI, 48, .inl (fun _ => 0))), (q15, .inl (cI, 48, .inl (fun _ => 0))), (q23, .inl (cI, 48, .inl (fun _ => 0)))] := hD
  obtain ⟨ad, ead⟩ : ∃ z : Nat → Nat, z = (fun k => ([h0, q7, q15, q23] : List Nat).getD k 0) := ⟨_, rfl⟩
  have had0 : ad 0 = h0 := by rw [ead]; rfl
  replace hP : va_P D vwCl (w_X3 cI cZ ad (u0_X3)) H := by rw [ead]; exact hP.sub [0, 1, 2, 3] rfl
  replace hD : va_D A (w_X3 cI cZ ad (u0_X3)) := by rw [ead]; exact hD.sub [0, 1, 2, 3] (by decide) rfl
  replace hl : lv_has ls 2 [(0, .ref (ad 0))] := by rw [had0]; exact hl
  generalize u0_X3 = u at h hP hD
  refine lv_iconst (v := 0) hx hb dX3_init_28 (by decide) ?_
  refine lv_istore_n (lv' := [(1, .int (0 : Int32)), (0, .ref (ad 0))]) hx hb dX3_init_29 rfl hl (by decide) rfl (fun ls hl => ?_)
  have hL30 : ∀ (k : I3 → Option I3) (hk : ∀ (w30 : I3) (H : Heap) (locs : List Loc) (ls : Array Slot), k w30 = some w' → va_P D vwCl (w_X3 cI cZ ad w30) H → va_D A (w_X3 cI cZ ad w30) → va_S A s.heap H locs → lv_has ls 2 [] → W p l e rc_X3 s m ([.ref h0] : List Value).toArray below meth c H locs 3 144 Q (F0 m 49 ls [])) (n : Nat) (x1_30 : Int32) (w30 : I3) (H : Heap) (locs : List Loc) (ls : Array Slot), lp_X3_init2_30 k n x1_30 w30 = some w' → va_P D vwCl (w_X3 cI cZ ad w30) H → va_D A (w_X3 cI cZ ad w30) → va_S A s.heap H locs → lv_has ls 2 [(0, .ref (ad 0)), (1, .int x1_30)] → W p l e rc_X3 s m ([.ref h0] : List Value).toArray below meth c H locs 3 144 Q (F0 m 30 ls []) := by
    intro k hk n
    induction n with
    | zero =>
      intro x1_30 w30 H locs ls h
      rw [lp_X3_init2_30] at h
      cases h
    | succ n ih =>
      intro x1_30 w30 H locs ls h hP hD hS hl
      rw [lp_X3_init2_30] at h
      refine lv_iload_n hx hb dX3_init_30 rfl (lv_at hl 1 rfl) ?_
      refine lv_bipush (v := 48) hx hb dX3_init_31 (by decide) ?_
      refine lv_icmp_ge (tgt := 49) hx hb dX3_init_33 (by decide) (fun c1 => ?_) (fun c1 => ?_)
      · replace h := gx_t c1 h
        exact hk w30 _ _ _ h hP hD hS (lv_sub hl [] rfl)
      · replace h := gx_f c1 h
        refine lv_aload_n hx hb dX3_init_36 rfl (lv_at hl 0 rfl) ?_
        refine va_get (D := D) (ci := 3) (v := .ref (ad 1)) (C := RX3) (T := TX3) (N := 3) hx hb hts iX3 hown hK hP 0 rfl rfl 0 (by decide) hf9 (fun _ h9 => h9) rfl dX3_init_37 ?_
        refine lv_iload_n hx hb dX3_init_40 rfl (lv_at hl 1 rfl) ?_
        refine lv_iconst (v := (-1)) hx hb dX3_init_41 (by decide) ?_
        obtain ⟨b2, h⟩ := gx_in h
        refine va_iast (D := D) hx hb hK hP hD hS 1 0 rfl rfl b2 dX3_init_42 (fun H locs hP hD hS => ?_)
        obtain ⟨u3, eu3, h⟩ := gx_let h
        replace hP : va_P D vwCl (w_X3 cI cZ ad u3) H := by rw [← eu3]; exact hP
        replace hD : va_D A (w_X3 cI cZ ad u3) := by rw [← eu3]; exact hD
        obtain ⟨v4, ev4, h⟩ := gx_let h
        refine lv_iinc (v := v4) (lv' := [(1, .int v4), (0, .ref (ad 0))]) hx hb dX3_init_43 hl (k := 1) rfl (by rw [← ev4]; rfl) (by decide) rfl (fun ls hl => ?_)
        refine lv_goto (tgt := 30) hx hb dX3_init_46 (by decide) ?_
        exact ih v4 u3 _ _ _ h hP hD hS (lv_sub hl [1, 0] rfl)
  refine hL30 _ (fun w30 H locs ls h hP hD hS hl => ?_) FU (0 : Int32) u _ _ _ h hP hD hS (lv_sub hl [1, 0] rfl)
  cases h
  exact cc_cret ad hx hb hr hQ hK had0 rfl hP hD hS dX3_init_49 hlocks

def rc_X6 : Room := { frames := 1, cells := 2, slots := 24, locals := 14 }
def u0_X6 : I6 := ((fun _ => 0), (fun _ => 0))
set_option maxHeartbeats 4000000 in
set_option maxRecDepth 100000 in
theorem kc_X6 (l : Launch) (D : va_G) (cI cZ : ClassId) (h0 : Nat) (w' : I6) (h : g_X6_init2 (u0_X6) = some w') : MC l yX6_init (wm yX6_init cX6_init 2 none) rc_X6 D [(cI, .int), (cZ, .boolean)] [(h0, .inr (6, [.null, .null]))] (fun ad => w_X6 cI cZ ad w') h0 2 24 := by
  intro sz
  refine Met.ofW (cc := cX6_init) (maxL := 2) (ret := none) (by decide) rfl ?_
  intro p e s m args below meth c s₁ B hml hv
  obtain ⟨rfl, hsz, hP, hK, hD0, hZ⟩ := hv
  have hx := B.exec
  have hb := B.bytes
  have hr := B.returns
  have hts : ∀ w ∈ Wall, w.before _ s = true := fun w hw => atoms_spec (ws := wm yX6_init cX6_init 2 none) B.pre w (List.mem_cons_of_mem _ hw)
  have hown : s.vm.findClass RX6 = some m.cls := findClass_of_methodNamed B.named
  have hlocks := B.notSynchronized
  have hin : meth.name = "<init>" := (name_of_methodNamed B.named B.method).1
  subst hsz
  have hD := hD0.self (sz := s.heap.size)
  generalize hAe : va_A [(h0, .inr (6, [.null, .null]))] s.heap.size = A at hD hZ ⊢
  have hA : ∀ q : Nat, s.heap.size ≤ q → A q := fun q h => by rw [← hAe]; exact Or.inr h
  have hS : va_S A s.heap s.heap [] := va_S.rf
  have hf9 := hts _ mw_142
  have hf15 := hts _ mw_143
  have hl := lv_entry ([.ref h0]) (n := 2) (Nat.le_of_ble_eq_true rfl)
  rw [lg_entry_eq]
  generalize (lg_sl ([.ref h0]) ++ List.replicate (2 - (lg_sl ([.ref h0])).length) Slot.unset).toArray = ls at hl ⊢
  replace hl : lv_has ls 2 [(0, .ref h0)] := hl
  refine w_gen (fun Q hQ => ?_)
  refine lv_aload_n hx hb dX6_init_0 rfl (lv_at hl 0 rfl) ?_
  refine W.objInit hx hb hown (hts _ mw_141) (hts _ mw_42) (hts _ mw_43) rfl (by rw [hml]; exact hl.1) rfl dX6_init_1 (Nat.le_of_ble_eq_true rfl) (Nat.le_of_ble_eq_true rfl) ?_
  refine W.eq (g2 := F0 m 4 ls []) rfl ?_
  refine lv_aload_n hx hb dX6_init_4 rfl (lv_at hl 0 rfl) ?_
  refine lv_bipush (v := 12) hx hb dX6_init_5 (by decide) ?_
  refine va_newa (atype := .boolean) (ty := .boolean) (a0 := (12, .inl (fun _ => 0))) hx hb (hts _ mw_80) rfl hK hP hD hS hA (fun _ => rfl) (by decide) (by decide) (Nat.le_of_ble_eq_true rfl) (Nat.le_of_ble_eq_true rfl) (Nat.le_of_ble_eq_true rfl) dX6_init_7 (fun q7 cA H hK9 hP hD hS => ?_)
  obtain rfl : cZ = cA := cls_bool hK9 1 2 rfl rfl
  clear hK9
  refine W.widen (k := 1) (n := 12) (Nat.le_of_ble_eq_true rfl) (Nat.le_of_ble_eq_true rfl) ?_
  replace hP : va_P D vwCl [(h0, .inr (6, [.null, .null])), (q7, .inl (cZ, 12, .inl (fun _ => 0)))] H := hP
  replace hD : va_D A [(h0, .inr (6, [.null, .null])), (q7, .inl (cZ, 12, .inl (fun _ => 0)))] := hD
  refine va_putF (D := D) (ci := 6) (v := .ref q7) (ty := (.array .boolean)) (C := RX6) (T := TX6) (N := 2) hx hb hts iX6 tyX6 tyX6_ok nmX6 hown hK hP hD hS 0 rfl rfl 0 (by decide) hf9 (fun _ h9 => h9) rfl hin rfl (by decide +kernel) rfl rfl (Nat.le_of_ble_eq_true rfl) dX6_init_9 (fun H locs hP hD hS => ?_)
  replace hP : va_P D vwCl [(h0, .inr (6, [.ref q7, .null])), (q7, .inl (cZ, 12, .inl (fun _ => 0)))] H := hP
  replace hD : va_D A [(h0, .inr (6, [.ref q7, .null])), (q7, .inl (cZ, 12, .inl (fun _ => 0)))] := hD
  refine lv_aload_n hx hb dX6_init_12 rfl (lv_at hl 0 rfl) ?_
  refine lv_bipush (v := 12) hx hb dX6_init_13 (by decide) ?_
  refine va_newa (atype := .int) (ty := .int) (a0 := (12, .inl (fun _ => 0))) hx hb (hts _ mw_79) rfl hK hP hD hS hA (fun _ => rfl) (by decide) (by decide) (Nat.le_of_ble_eq_true rfl) (Nat.le_of_ble_eq_true rfl) (Nat.le_of_ble_eq_true rfl) dX6_init_15 (fun q15 cA H hK9 hP hD hS => ?_)
  obtain rfl : cI = cA := cls_int hK9 0 2 rfl rfl
  clear hK9
  refine W.widen (k := 2) (n := 24) (Nat.le_of_ble_eq_true rfl) (Nat.le_of_ble_eq_true rfl) ?_
  replace hP : va_P D vwCl [(h0, .inr (6, [.ref q7, .null])), (q7, .inl (cZ, 12, .inl (fun _ => 0))), (q15, .inl (cI, 12, .inl (fun _ => 0)))] H := hP
  replace hD : va_D A [(h0, .inr (6, [.ref q7, .null])), (q7, .inl (cZ, 12, .inl (fun _ => 0))), (q15, .inl (cI, 12, .inl (fun _ => 0)))] := hD
  refine va_putF (D := D) (ci := 6) (v := .ref q15) (ty := (.array .int)) (C := RX6) (T := TX6) (N := 2) hx hb hts iX6 tyX6 tyX6_ok nmX6 hown hK hP hD hS 0 rfl rfl 1 (by decide) hf15 (fun _ h9 => h9) rfl hin rfl (by decide +kernel) rfl rfl (Nat.le_of_ble_eq_true rfl) dX6_init_17 (fun H locs hP hD hS => ?_)
  replace hP : va_P D vwCl [(h0, .inr (6, [.ref q7, .ref q15])), (q7, .inl (cZ, 12, .inl (fun _ => 0))), (q15, .inl (cI, 12, .inl (fun _ => 0)))] H := hP
  replace hD : va_D A [(h0, .inr (6, [.ref q7, .ref q15])), (q7, .inl (cZ, 12, .inl (fun _ => 0))), (q15, .inl (cI, 12, .inl (fun _ => 0)))] := hD
  obtain ⟨ad, ead⟩ : ∃ z : Nat → Nat, z = (fun k => ([h0, q7, q15] : List Nat).getD k 0) := ⟨_, rfl⟩
  have had0 : ad 0 = h0 := by rw [ead]; rfl
  replace hP : va_P D vwCl (w_X6 cI cZ ad (u0_X6)) H := by rw [ead]; exact hP.sub [0, 1, 2] rfl
  replace hD : va_D A (w_X6 cI cZ ad (u0_X6)) := by rw [ead]; exact hD.sub [0, 1, 2] (by decide) rfl
  replace hl : lv_has ls 2 [(0, .ref (ad 0))] := by rw [had0]; exact hl
  generalize u0_X6 = u at h hP hD
  refine lv_iconst (v := 0) hx hb dX6_init_20 (by decide) ?_
  refine lv_istore_n (lv' := [(1, .int (0 : Int32)), (0, .ref (ad 0))]) hx hb dX6_init_21 rfl hl (by decide) rfl (fun ls hl => ?_)
  have hL22 : ∀ (k : I6 → Option I6) (hk : ∀ (w22 : I6) (H : Heap) (locs : List Loc) (ls : Array Slot), k w22 = some w' → va_P D vwCl (w_X6 cI cZ ad w22) H → va_D A (w_X6 cI cZ ad w22) → va_S A s.heap H locs → lv_has ls 2 [] → W p l e rc_X6 s m ([.ref h0] : List Value).toArray below meth c H locs 2 24 Q (F0 m 43 ls [])) (n : Nat) (x1_22 : Int32) (w22 : I6) (H : Heap) (locs : List Loc) (ls : Array Slot), lp_X6_init2_22 k n x1_22 w22 = some w' → va_P D vwCl (w_X6 cI cZ ad w22) H → va_D A (w_X6 cI cZ ad w22) → va_S A s.heap H locs → lv_has ls 2 [(0, .ref (ad 0)), (1, .int x1_22)] → W p l e rc_X6 s m ([.ref h0] : List Value).toArray below meth c H locs 2 24 Q (F0 m 22 ls []) := by
    intro k hk n
    induction n with
    | zero =>
      intro x1_22 w22 H locs ls h
      rw [lp_X6_init2_22] at h
      cases h
    | succ n ih =>
      intro x1_22 w22 H locs ls h hP hD hS hl
      rw [lp_X6_init2_22] at h
      refine lv_iload_n hx hb dX6_init_22 rfl (lv_at hl 1 rfl) ?_
      refine lv_bipush (v := 12) hx hb dX6_init_23 (by decide) ?_
      refine lv_icmp_ge (tgt := 43) hx hb dX6_init_25 (by decide) (fun c1 => ?_) (fun c1 => ?_)
      · replace h := gx_t c1 h
        exact hk w22 _ _ _ h hP hD hS (lv_sub hl [] rfl)
      · replace h := gx_f c1 h
        refine lv_aload_n hx hb dX6_init_28 rfl (lv_at hl 0 rfl) ?_
        refine va_get (D := D) (ci := 6) (v := .ref (ad 2)) (C := RX6) (T := TX6) (N := 2) hx hb hts iX6 hown hK hP 0 rfl rfl 1 (by decide) hf15 (fun _ h9 => h9) rfl dX6_init_29 ?_
        refine lv_iload_n hx hb dX6_init_32 rfl (lv_at hl 1 rfl) ?_
        refine lv_sipush (v := (-1000)) hx hb dX6_init_33 (by decide) ?_
        obtain ⟨b2, h⟩ := gx_in h
        refine va_iast (D := D) hx hb hK hP hD hS 2 0 rfl rfl b2 dX6_init_36 (fun H locs hP hD hS => ?_)
        obtain ⟨u3, eu3, h⟩ := gx_let h
        replace hP : va_P D vwCl (w_X6 cI cZ ad u3) H := by rw [← eu3]; exact hP
        replace hD : va_D A (w_X6 cI cZ ad u3) := by rw [← eu3]; exact hD
        obtain ⟨v4, ev4, h⟩ := gx_let h
        refine lv_iinc (v := v4) (lv' := [(1, .int v4), (0, .ref (ad 0))]) hx hb dX6_init_37 hl (k := 1) rfl (by rw [← ev4]; rfl) (by decide) rfl (fun ls hl => ?_)
        refine lv_goto (tgt := 22) hx hb dX6_init_40 (by decide) ?_
        exact ih v4 u3 _ _ _ h hP hD hS (lv_sub hl [1, 0] rfl)
  refine hL22 _ (fun w22 H locs ls h hP hD hS hl => ?_) FU (0 : Int32) u _ _ _ h hP hD hS (lv_sub hl [1, 0] rfl)
  cases h
  exact cc_cret ad hx hb hr hQ hK had0 rfl hP hD hS dX6_init_43 hlocks

def rc_X2 : Room := { frames := 1, cells := 3, slots := 36, locals := 14 }
set_option maxHeartbeats 4000000 in
set_option maxRecDepth 100000 in
theorem kc_X2 (l : Launch) (D : va_G) (cI cZ : ClassId) (h0 : Nat) : MC l yX2_init (wm yX2_init cX2_init 1 none) rc_X2 D [(cI, .int), (cZ, .boolean)] [(h0, .inr (2, [.null, .null, .null, .int 0]))] (fun ad => [(ad 0, .inr (2, [.ref (ad 1), .ref (ad 2), .ref (ad 3), .int 0])), (ad 1, .inl (cI, 12, .inl (fun _ => 0))), (ad 2, .inl (cI, 12, .inl (fun _ => 0))), (ad 3, .inl (cI, 12, .inl (fun _ => 0)))]) h0 3 36 := by
  intro sz
  refine Met.ofW (cc := cX2_init) (maxL := 1) (ret := none) (by decide) rfl ?_
  intro p e s m args below meth c s₁ B hml hv
  obtain ⟨rfl, hsz, hP, hK, hD0, hZ⟩ := hv
  have hx := B.exec
  have hb := B.bytes
  have hr := B.returns
  have hts : ∀ w ∈ Wall, w.before _ s = true := fun w hw => atoms_spec (ws := wm yX2_init cX2_init 1 none) B.pre w (List.mem_cons_of_mem _ hw)
  have hown : s.vm.findClass RX2 = some m.cls := findClass_of_methodNamed B.named
  have hlocks := B.notSynchronized
  have hin : meth.name = "<init>" := (name_of_methodNamed B.named B.method).1
  subst hsz
  have hD := hD0.self (sz := s.heap.size)
  generalize hAe : va_A [(h0, .inr (2, [.null, .null, .null, .int 0]))] s.heap.size = A at hD hZ ⊢
  have hA : ∀ q : Nat, s.heap.size ≤ q → A q := fun q h => by rw [← hAe]; exact Or.inr h
  have hS : va_S A s.heap s.heap [] := va_S.rf
  have hf11 := hts _ mw_156
  have hf15 := hts _ mw_158
  have hf18 := hts _ mw_160
  have hf21 := hts _ mw_162
  have hl := lv_entry ([.ref h0]) (n := 1) (Nat.le_of_ble_eq_true rfl)
  rw [lg_entry_eq]
  generalize (lg_sl ([.ref h0]) ++ List.replicate (1 - (lg_sl ([.ref h0])).length) Slot.unset).toArray = ls at hl ⊢
  replace hl : lv_has ls 1 [(0, .ref h0)] := hl
  refine w_gen (fun Q hQ => ?_)
  refine lv_aload_n hx hb dX2_init_0 rfl (lv_at hl 0 rfl) ?_
  refine W.objInit hx hb hown (hts _ mw_155) (hts _ mw_42) (hts _ mw_43) rfl (by rw [hml]; exact hl.1) rfl dX2_init_1 (Nat.le_of_ble_eq_true rfl) (Nat.le_of_ble_eq_true rfl) ?_
  refine W.eq (g2 := F0 m 4 ls []) rfl ?_
  refine lv_aload_n hx hb dX2_init_4 rfl (lv_at hl 0 rfl) ?_
  refine lv_bipush (v := 12) hx hb dX2_init_5 (by decide) ?_
  refine va_newa (atype := .int) (ty := .int) (a0 := (12, .inl (fun _ => 0))) hx hb (hts _ mw_79) rfl hK hP hD hS hA (fun _ => rfl) (by decide) (by decide) (Nat.le_of_ble_eq_true rfl) (Nat.le_of_ble_eq_true rfl) (Nat.le_of_ble_eq_true rfl) dX2_init_7 (fun q7 cA H hK9 hP hD hS => ?_)
  obtain rfl : cI = cA := cls_int hK9 0 2 rfl rfl
  clear hK9
  refine W.widen (k := 1) (n := 12) (Nat.le_of_ble_eq_true rfl) (Nat.le_of_ble_eq_true rfl) ?_
  replace hP : va_P D vwCl [(h0, .inr (2, [.null, .null, .null, .int 0])), (q7, .inl (cI, 12, .inl (fun _ => 0)))] H := hP
  replace hD : va_D A [(h0, .inr (2, [.null, .null, .null, .int 0])), (q7, .inl (cI, 12, .inl (fun _ => 0)))] := hD
  refine va_putF (D := D) (ci := 2) (v := .ref q7) (ty := (.array .int)) (C := RX2) (T := TX2) (N := 4) hx hb hts iX2 tyX2 tyX2_ok nmX2 hown hK hP hD hS 0 rfl rfl 0 (by decide) hf11 (fun _ h9 => h9) rfl hin rfl (by decide +kernel) rfl rfl (Nat.le_of_ble_eq_true rfl) dX2_init_9 (fun H locs hP hD hS => ?_)
  replace hP : va_P D vwCl [(h0, .inr (2, [.ref q7, .null, .null, .int 0])), (q7, .inl (cI, 12, .inl (fun _ => 0)))] H := hP
  replace hD : va_D A [(h0, .inr (2, [.ref q7, .null, .null, .int 0])), (q7, .inl (cI, 12, .inl (fun _ => 0)))] := hD
  refine lv_aload_n hx hb dX2_init_12 rfl (lv_at hl 0 rfl) ?_
  refine lv_bipush (v := 12) hx hb dX2_init_13 (by decide) ?_
  refine va_newa (atype := .int) (ty := .int) (a0 := (12, .inl (fun _ => 0))) hx hb (hts _ mw_79) rfl hK hP hD hS hA (fun _ => rfl) (by decide) (by decide) (Nat.le_of_ble_eq_true rfl) (Nat.le_of_ble_eq_true rfl) (Nat.le_of_ble_eq_true rfl) dX2_init_15 (fun q15 cA H hK9 hP hD hS => ?_)
  obtain rfl : cI = cA := cls_int hK9 0 2 rfl rfl
  clear hK9
  refine W.widen (k := 2) (n := 24) (Nat.le_of_ble_eq_true rfl) (Nat.le_of_ble_eq_true rfl) ?_
  replace hP : va_P D vwCl [(h0, .inr (2, [.ref q7, .null, .null, .int 0])), (q7, .inl (cI, 12, .inl (fun _ => 0))), (q15, .inl (cI, 12, .inl (fun _ => 0)))] H := hP
  replace hD : va_D A [(h0, .inr (2, [.ref q7, .null, .null, .int 0])), (q7, .inl (cI, 12, .inl (fun _ => 0))), (q15, .inl (cI, 12, .inl (fun _ => 0)))] := hD
  refine va_putF (D := D) (ci := 2) (v := .ref q15) (ty := (.array .int)) (C := RX2) (T := TX2) (N := 4) hx hb hts iX2 tyX2 tyX2_ok nmX2 hown hK hP hD hS 0 rfl rfl 1 (by decide) hf15 (fun _ h9 => h9) rfl hin rfl (by decide +kernel) rfl rfl (Nat.le_of_ble_eq_true rfl) dX2_init_17 (fun H locs hP hD hS => ?_)
  replace hP : va_P D vwCl [(h0, .inr (2, [.ref q7, .ref q15, .null, .int 0])), (q7, .inl (cI, 12, .inl (fun _ => 0))), (q15, .inl (cI, 12, .inl (fun _ => 0)))] H := hP
  replace hD : va_D A [(h0, .inr (2, [.ref q7, .ref q15, .null, .int 0])), (q7, .inl (cI, 12, .inl (fun _ => 0))), (q15, .inl (cI, 12, .inl (fun _ => 0)))] := hD
  refine lv_aload_n hx hb dX2_init_20 rfl (lv_at hl 0 rfl) ?_
  refine lv_bipush (v := 12) hx hb dX2_init_21 (by decide) ?_
  refine va_newa (atype := .int) (ty := .int) (a0 := (12, .inl (fun _ => 0))) hx hb (hts _ mw_79) rfl hK hP hD hS hA (fun _ => rfl) (by decide) (by decide) (Nat.le_of_ble_eq_true rfl) (Nat.le_of_ble_eq_true rfl) (Nat.le_of_ble_eq_true rfl) dX2_init_23 (fun q23 cA H hK9 hP hD hS => ?_)
  obtain rfl : cI = cA := cls_int hK9 0 2 rfl rfl
  clear hK9
  refine W.widen (k := 3) (n := 36) (Nat.le_of_ble_eq_true rfl) (Nat.le_of_ble_eq_true rfl) ?_
  replace hP : va_P D vwCl [(h0, .inr (2, [.ref q7, .ref q15, .null, .int 0])), (q7, .inl (cI, 12, .inl (fun _ => 0))), (q15, .inl (cI, 12, .inl (fun _ => 0))), (q23, .inl (cI, 12, .inl (fun _ => 0)))] H := hP
  replace hD : va_D A [(h0, .inr (2, [.ref q7, .ref q15, .null, .int 0])), (q7, .inl (cI, 12, .inl (fun _ => 0))), (q15, .inl (cI, 12, .inl (fun _ => 0))), (q23, .inl (cI, 12, .inl (fun _ => 0)))] := hD
  refine va_putF (D := D) (ci := 2) (v := .ref q23) (ty := (.array .int)) (C := RX2) (T := TX2) (N := 4) hx hb hts iX2 tyX2 tyX2_ok nmX2 hown hK hP hD hS 0 rfl rfl 2 (by decide) hf18 (fun _ h9 => h9) rfl hin rfl (by decide +kernel) rfl rfl (Nat.le_of_ble_eq_true rfl) dX2_init_25 (fun H locs hP hD hS => ?_)
  replace hP : va_P D vwCl [(h0, .inr (2, [.ref q7, .ref q15, .ref q23, .int 0])), (q7, .inl (cI, 12, .inl (fun _ => 0))), (q15, .inl (cI, 12, .inl (fun _ => 0))), (q23, .inl (cI, 12, .inl (fun _ => 0)))] H := hP
  replace hD : va_D A [(h0, .inr (2, [.ref q7, .ref q15, .ref q23, .int 0])), (q7, .inl (cI, 12, .inl (fun _ => 0))), (q15, .inl (cI, 12, .inl (fun _ => 0))), (q23, .inl (cI, 12, .inl (fun _ => 0)))] := hD
  refine lv_aload_n hx hb dX2_init_28 rfl (lv_at hl 0 rfl) ?_
  refine lv_iconst (v := 0) hx hb dX2_init_29 (by decide) ?_
  refine va_put (D := D) (ci := 2) (v := .int 0) (ty := .int) (C := RX2) (T := TX2) (N := 4) hx hb hts iX2 tyX2 tyX2_ok nmX2 hown hK hP hD hS 0 rfl rfl 3 (by decide) hf21 (fun _ h9 => h9) rfl (by decide +kernel) rfl rfl (Nat.le_of_ble_eq_true rfl) dX2_init_30 (fun H locs hP hD hS => ?_)
  replace hP : va_P D vwCl [(h0, .inr (2, [.ref q7, .ref q15, .ref q23, .int 0])), (q7, .inl (cI, 12, .inl (fun _ => 0))), (q15, .inl (cI, 12, .inl (fun _ => 0))), (q23, .inl (cI, 12, .inl (fun _ => 0)))] H := hP
  replace hD : va_D A [(h0, .inr (2, [.ref q7, .ref q15, .ref q23, .int 0])), (q7, .inl (cI, 12, .inl (fun _ => 0))), (q15, .inl (cI, 12, .inl (fun _ => 0))), (q23, .inl (cI, 12, .inl (fun _ => 0)))] := hD
  exact cc_cret (fun k => ([h0, q7, q15, q23] : List Nat).getD k 0) hx hb hr hQ hK rfl rfl (hP.sub [0, 1, 2, 3] rfl) (hD.sub [0, 1, 2, 3] (by decide) rfl) hS dX2_init_33 hlocks

def rc_X4 : Room := { frames := 1, cells := 3, slots := 9, locals := 14 }
set_option maxHeartbeats 4000000 in
set_option maxRecDepth 100000 in
theorem kc_X4 (l : Launch) (D : va_G) (cI cZ : ClassId) (h0 : Nat) : MC l yX4_init (wm yX4_init cX4_init 1 none) rc_X4 D [(cI, .int), (cZ, .boolean)] [(h0, .inr (4, [.null, .null, .null]))] (fun ad => [(ad 0, .inr (4, [.ref (ad 1), .ref (ad 2), .ref (ad 3)])), (ad 1, .inl (cI, 3, .inl (fun _ => 0))), (ad 2, .inl (cI, 3, .inl (upd (upd (upd (fun _ => 0) (0 : Int32).toNatClampNeg (-1)) (1 : Int32).toNatClampNeg (-1)) (2 : Int32).toNatClampNeg (-1)))), (ad 3, .inl (cI, 3, .inl (fun _ => 0)))]) h0 3 9 := by
  intro sz
  refine Met.ofW (cc := cX4_init) (maxL := 1) (ret := none) (by decide) rfl ?_
  intro p e s m args below meth c s₁ B hml hv
  obtain ⟨rfl, hsz, hP, hK, hD0, hZ⟩ := hv
  have hx := B.exec
  have hb := B.bytes
  have hr := B.returns
  have hts : ∀ w ∈ Wall, w.before _ s = true := fun w hw => atoms_spec (ws := wm yX4_init cX4_init 1 none) B.pre w (List.mem_cons_of_mem _ hw)
  have hown : s.vm.findClass RX4 = some m.cls := findClass_of_methodNamed B.named
  have hlocks := B.notSynchronized
  have hin : meth.name = "<init>" := (name_of_methodNamed B.named B.method).1
  subst hsz
  have hD := hD0.self (sz := s.heap.size)
  generalize hAe : va_A [(h0, .inr (4, [.null, .null, .null]))] s.heap.size = A at hD hZ ⊢
  have hA : ∀ q : Nat, s.heap.size ≤ q → A q := fun q h => by rw [← hAe]; exact Or.inr h
  have hS : va_S A s.heap s.heap [] := va_S.rf
  have hf11 := hts _ mw_178
  have hf15 := hts _ mw_180
  have hf18 := hts _ mw_182
  have hl := lv_entry ([.ref h0]) (n := 1) (Nat.le_of_ble_eq_true rfl)
  rw [lg_entry_eq]
  generalize (lg_sl ([.ref h0]) ++ List.replicate (1 - (lg_sl ([.ref h0])).length) Slot.unset).toArray = ls at hl ⊢
  replace hl : lv_has ls 1 [(0, .ref h0)] := hl
  refine w_gen (fun Q hQ => ?_)
  refine lv_aload_n hx hb dX4_init_0 rfl (lv_at hl 0 rfl) ?_
  refine W.objInit hx hb hown (hts _ mw_177) (hts _ mw_42) (hts _ mw_43) rfl (by rw [hml]; exact hl.1) rfl dX4_init_1 (Nat.le_of_ble_eq_true rfl) (Nat.le_of_ble_eq_true rfl) ?_
  refine W.eq (g2 := F0 m 4 ls []) rfl ?_
  refine lv_aload_n hx hb dX4_init_4 rfl (lv_at hl 0 rfl) ?_
  refine lv_iconst (v := 3) hx hb dX4_init_5 (by decide) ?_
  refine va_newa (atype := .int) (ty := .int) (a0 := (3, .inl (fun _ => 0))) hx hb (hts _ mw_79) rfl hK hP hD hS hA (fun _ => rfl) (by decide) (by decide) (Nat.le_of_ble_eq_true rfl) (Nat.le_of_ble_eq_true rfl) (Nat.le_of_ble_eq_true rfl) dX4_init_6 (fun q6 cA H hK9 hP hD hS => ?_)
  obtain rfl : cI = cA := cls_int hK9 0 2 rfl rfl
  clear hK9
  refine W.widen (k := 1) (n := 3) (Nat.le_of_ble_eq_true rfl) (Nat.le_of_ble_eq_true rfl) ?_
  replace hP : va_P D vwCl [(h0, .inr (4, [.null, .null, .null])), (q6, .inl (cI, 3, .inl (fun _ => 0)))] H := hP
  replace hD : va_D A [(h0, .inr (4, [.null, .null, .null])), (q6, .inl (cI, 3, .inl (fun _ => 0)))] := hD
  refine va_putF (D := D) (ci := 4) (v := .ref q6) (ty := (.array .int)) (C := RX4) (T := TX4) (N := 3) hx hb hts iX4 tyX4 tyX4_ok nmX4 hown hK hP hD hS 0 rfl rfl 0 (by decide) hf11 (fun _ h9 => h9) rfl hin rfl (by decide +kernel) rfl rfl (Nat.le_of_ble_eq_true rfl) dX4_init_8 (fun H locs hP hD hS => ?_)
  replace hP : va_P D vwCl [(h0, .inr (4, [.ref q6, .null, .null])), (q6, .inl (cI, 3, .inl (fun _ => 0)))] H := hP
  replace hD : va_D A [(h0, .inr (4, [.ref q6, .null, .null])), (q6, .inl (cI, 3, .inl (fun _ => 0)))] := hD
  refine lv_aload_n hx hb dX4_init_11 rfl (lv_at hl 0 rfl) ?_
  refine lv_iconst (v := 3) hx hb dX4_init_12 (by decide) ?_
  refine va_newa (atype := .int) (ty := .int) (a0 := (3, .inl (fun _ => 0))) hx hb (hts _ mw_79) rfl hK hP hD hS hA (fun _ => rfl) (by decide) (by decide) (Nat.le_of_ble_eq_true rfl) (Nat.le_of_ble_eq_true rfl) (Nat.le_of_ble_eq_true rfl) dX4_init_13 (fun q13 cA H hK9 hP hD hS => ?_)
  obtain rfl : cI = cA := cls_int hK9 0 2 rfl rfl
  clear hK9
  refine W.widen (k := 2) (n := 6) (Nat.le_of_ble_eq_true rfl) (Nat.le_of_ble_eq_true rfl) ?_
  replace hP : va_P D vwCl [(h0, .inr (4, [.ref q6, .null, .null])), (q6, .inl (cI, 3, .inl (fun _ => 0))), (q13, .inl (cI, 3, .inl (fun _ => 0)))] H := hP
  replace hD : va_D A [(h0, .inr (4, [.ref q6, .null, .null])), (q6, .inl (cI, 3, .inl (fun _ => 0))), (q13, .inl (cI, 3, .inl (fun _ => 0)))] := hD
  refine lv_dup hx hb dX4_init_15 rfl ?_
  refine lv_iconst (v := 0) hx hb dX4_init_16 (by decide) ?_
  refine lv_iconst (v := (-1)) hx hb dX4_init_17 (by decide) ?_
  refine va_iast (D := D) hx hb hK hP hD hS 2 0 rfl rfl (by unfold vp_in; decide) dX4_init_18 (fun H locs hP hD hS => ?_)
  replace hP : va_P D vwCl [(h0, .inr (4, [.ref q6, .null, .null])), (q6, .inl (cI, 3, .inl (fun _ => 0))), (q13, .inl (cI, 3, .inl (upd (fun _ => 0) (0 : Int32).toNatClampNeg (-1))))] H := hP
  replace hD : va_D A [(h0, .inr (4, [.ref q6, .null, .null])), (q6, .inl (cI, 3, .inl (fun _ => 0))), (q13, .inl (cI, 3, .inl (upd (fun _ => 0) (0 : Int32).toNatClampNeg (-1))))] := hD
  refine lv_dup hx hb dX4_init_19 rfl ?_
  refine lv_iconst (v := 1) hx hb dX4_init_20 (by decide) ?_
  refine lv_iconst (v := (-1)) hx hb dX4_init_21 (by decide) ?_
  refine va_iast (D := D) hx hb hK hP hD hS 2 0 rfl rfl (by unfold vp_in; decide) dX4_init_22 (fun H locs hP hD hS => ?_)
  replace hP : va_P D vwCl [(h0, .inr (4, [.ref q6, .null, .null])), (q6, .inl (cI, 3, .inl (fun _ => 0))), (q13, .inl (cI, 3, .inl (upd (upd (fun _ => 0) (0 : Int32).toNatClampNeg (-1)) (1 : Int32).toNatClampNeg (-1))))] H := hP
  replace hD : va_D A [(h0, .inr (4, [.ref q6, .null, .null])), (q6, .inl (cI, 3, .inl (fun _ => 0))), (q13, .inl (cI, 3, .inl (upd (upd (fun _ => 0) (0 : Int32).toNatClampNeg (-1)) (1 : Int32).toNatClampNeg (-1))))] := hD
  refine lv_dup hx hb dX4_init_23 rfl ?_
  refine lv_iconst (v := 2) hx hb dX4_init_24 (by decide) ?_
  refine lv_iconst (v := (-1)) hx hb dX4_init_25 (by decide) ?_
  refine va_iast (D := D) hx hb hK hP hD hS 2 0 rfl rfl (by unfold vp_in; decide) dX4_init_26 (fun H locs hP hD hS => ?_)
  replace hP : va_P D vwCl [(h0, .inr (4, [.ref q6, .null, .null])), (q6, .inl (cI, 3, .inl (fun _ => 0))), (q13, .inl (cI, 3, .inl (upd (upd (upd (fun _ => 0) (0 : Int32).toNatClampNeg (-1)) (1 : Int32).toNatClampNeg (-1)) (2 : Int32).toNatClampNeg (-1))))] H := hP
  replace hD : va_D A [(h0, .inr (4, [.ref q6, .null, .null])), (q6, .inl (cI, 3, .inl (fun _ => 0))), (q13, .inl (cI, 3, .inl (upd (upd (upd (fun _ => 0) (0 : Int32).toNatClampNeg (-1)) (1 : Int32).toNatClampNeg (-1)) (2 : Int32).toNatClampNeg (-1))))] := hD
  refine va_putF (D := D) (ci := 4) (v := .ref q13) (ty := (.array .int)) (C := RX4) (T := TX4) (N := 3) hx hb hts iX4 tyX4 tyX4_ok nmX4 hown hK hP hD hS 0 rfl rfl 1 (by decide) hf15 (fun _ h9 => h9) rfl hin rfl (by decide +kernel) rfl rfl (Nat.le_of_ble_eq_true rfl) dX4_init_27 (fun H locs hP hD hS => ?_)
  replace hP : va_P D vwCl [(h0, .inr (4, [.ref q6, .ref q13, .null])), (q6, .inl (cI, 3, .inl (fun _ => 0))), (q13, .inl (cI, 3, .inl (upd (upd (upd (fun _ => 0) (0 : Int32).toNatClampNeg (-1)) (1 : Int32).toNatClampNeg (-1)) (2 : Int32).toNatClampNeg (-1))))] H := hP
  replace hD : va_D A [(h0, .inr (4, [.ref q6, .ref q13, .null])), (q6, .inl (cI, 3, .inl (fun _ => 0))), (q13, .inl (cI, 3, .inl (upd (upd (upd (fun _ => 0) (0 : Int32).toNatClampNeg (-1)) (1 : Int32).toNatClampNeg (-1)) (2 : Int32).toNatClampNeg (-1))))] := hD
  refine lv_aload_n hx hb dX4_init_30 rfl (lv_at hl 0 rfl) ?_
  refine lv_iconst (v := 3) hx hb dX4_init_31 (by decide) ?_
  refine va_newa (atype := .int) (ty := .int) (a0 := (3, .inl (fun _ => 0))) hx hb (hts _ mw_79) rfl hK hP hD hS hA (fun _ => rfl) (by decide) (by decide) (Nat.le_of_ble_eq_true rfl) (Nat.le_of_ble_eq_true rfl) (Nat.le_of_ble_eq_true rfl) dX4_init_32 (fun q32 cA H hK9 hP hD hS => ?_)
  obtain rfl : cI = cA := cls_int hK9 0 2 rfl rfl
  clear hK9
  refine W.widen (k := 3) (n := 9) (Nat.le_of_ble_eq_true rfl) (Nat.le_of_ble_eq_true rfl) ?_
  replace hP : va_P D vwCl [(h0, .inr (4, [.ref q6, .ref q13, .null])), (q6, .inl (cI, 3, .inl (fun _ => 0))), (q13, .inl (cI, 3, .inl (upd (upd (upd (fun _ => 0) (0 : Int32).toNatClampNeg (-1)) (1 : Int32).toNatClampNeg (-1)) (2 : Int32).toNatClampNeg (-1)))), (q32, .inl (cI, 3, .inl (fun _ => 0)))] H := hP
  replace hD : va_D A [(h0, .inr (4, [.ref q6, .ref q13, .null])), (q6, .inl (cI, 3, .inl (fun _ => 0))), (q13, .inl (cI, 3, .inl (upd (upd (upd (fun _ => 0) (0 : Int32).toNatClampNeg (-1)) (1 : Int32).toNatClampNeg (-1)) (2 : Int32).toNatClampNeg (-1)))), (q32, .inl (cI, 3, .inl (fun _ => 0)))] := hD
  refine va_putF (D := D) (ci := 4) (v := .ref q32) (ty := (.array .int)) (C := RX4) (T := TX4) (N := 3) hx hb hts iX4 tyX4 tyX4_ok nmX4 hown hK hP hD hS 0 rfl rfl 2 (by decide) hf18 (fun _ h9 => h9) rfl hin rfl (by decide +kernel) rfl rfl (Nat.le_of_ble_eq_true rfl) dX4_init_34 (fun H locs hP hD hS => ?_)
  replace hP : va_P D vwCl [(h0, .inr (4, [.ref q6, .ref q13, .ref q32])), (q6, .inl (cI, 3, .inl (fun _ => 0))), (q13, .inl (cI, 3, .inl (upd (upd (upd (fun _ => 0) (0 : Int32).toNatClampNeg (-1)) (1 : Int32).toNatClampNeg (-1)) (2 : Int32).toNatClampNeg (-1)))), (q32, .inl (cI, 3, .inl (fun _ => 0)))] H := hP
  replace hD : va_D A [(h0, .inr (4, [.ref q6, .ref q13, .ref q32])), (q6, .inl (cI, 3, .inl (fun _ => 0))), (q13, .inl (cI, 3, .inl (upd (upd (upd (fun _ => 0) (0 : Int32).toNatClampNeg (-1)) (1 : Int32).toNatClampNeg (-1)) (2 : Int32).toNatClampNeg (-1)))), (q32, .inl (cI, 3, .inl (fun _ => 0)))] := hD
  exact cc_cret (fun k => ([h0, q6, q13, q32] : List Nat).getD k 0) hx hb hr hQ hK rfl rfl (hP.sub [0, 1, 2, 3] rfl) (hD.sub [0, 1, 2, 3] (by decide) rfl) hS dX4_init_37 hlocks

def rc_X0 : Room := { frames := 1, cells := 5, slots := 40, locals := 14 }
set_option maxHeartbeats 4000000 in
set_option maxRecDepth 100000 in
theorem kc_X0 (l : Launch) (D : va_G) (cI cZ : ClassId) (h0 : Nat) : MC l yX0_init (wm yX0_init cX0_init 1 none) rc_X0 D [(cI, .int), (cZ, .boolean)] [(h0, .inr (0, [.null, .null, .null, .null, .null, .int 0]))] (fun ad => [(ad 0, .inr (0, [.ref (ad 1), .ref (ad 2), .ref (ad 3), .ref (ad 4), .ref (ad 5), .int 0])), (ad 1, .inl (cI, 8, .inl (fun _ => 0))), (ad 2, .inl (cI, 8, .inl (fun _ => 0))), (ad 3, .inl (cI, 8, .inl (fun _ => 0))), (ad 4, .inl (cI, 8, .inl (fun _ => 0))), (ad 5, .inl (cI, 8, .inl (fun _ => 0)))]) h0 5 40 := by
  intro sz
  refine Met.ofW (cc := cX0_init) (maxL := 1) (ret := none) (by decide) rfl ?_
  intro p e s m args below meth c s₁ B hml hv
  obtain ⟨rfl, hsz, hP, hK, hD0, hZ⟩ := hv
  have hx := B.exec
  have hb := B.bytes
  have hr := B.returns
  have hts : ∀ w ∈ Wall, w.before _ s = true := fun w hw => atoms_spec (ws := wm yX0_init cX0_init 1 none) B.pre w (List.mem_cons_of_mem _ hw)
  have hown : s.vm.findClass RX0 = some m.cls := findClass_of_methodNamed B.named
  have hlocks := B.notSynchronized
  have hin : meth.name = "<init>" := (name_of_methodNamed B.named B.method).1
  subst hsz
  have hD := hD0.self (sz := s.heap.size)
  generalize hAe : va_A [(h0, .inr (0, [.null, .null, .null, .null, .null, .int 0]))] s.heap.size = A at hD hZ ⊢
  have hA : ∀ q : Nat, s.heap.size ≤ q → A q := fun q h => by rw [← hAe]; exact Or.inr h
  have hS : va_S A s.heap s.heap [] := va_S.rf
  have hf11 := hts _ mw_197
  have hf15 := hts _ mw_198
  have hf18 := hts _ mw_199
  have hf21 := hts _ mw_200
  have hf24 := hts _ mw_201
  have hf27 := hts _ mw_202
  have hl := lv_entry ([.ref h0]) (n := 1) (Nat.le_of_ble_eq_true rfl)
  rw [lg_entry_eq]
  generalize (lg_sl ([.ref h0]) ++ List.replicate (1 - (lg_sl ([.ref h0])).length) Slot.unset).toArray = ls at hl ⊢
  replace hl : lv_has ls 1 [(0, .ref h0)] := hl
  refine w_gen (fun Q hQ => ?_)
  refine lv_aload_n hx hb dX0_init_0 rfl (lv_at hl 0 rfl) ?_
  refine W.objInit hx hb hown (hts _ mw_196) (hts _ mw_42) (hts _ mw_43) rfl (by rw [hml]; exact hl.1) rfl dX0_init_1 (Nat.le_of_ble_eq_true rfl) (Nat.le_of_ble_eq_true rfl) ?_
  refine W.eq (g2 := F0 m 4 ls []) rfl ?_
  refine lv_aload_n hx hb dX0_init_4 rfl (lv_at hl 0 rfl) ?_
  refine lv_bipush (v := 8) hx hb dX0_init_5 (by decide) ?_
  refine va_newa (atype := .int) (ty := .int) (a0 := (8, .inl (fun _ => 0))) hx hb (hts _ mw_79) rfl hK hP hD hS hA (fun _ => rfl) (by decide) (by decide) (Nat.le_of_ble_eq_true rfl) (Nat.le_of_ble_eq_true rfl) (Nat.le_of_ble_eq_true rfl) dX0_init_7 (fun q7 cA H hK9 hP hD hS => ?_)
  obtain rfl : cI = cA := cls_int hK9 0 2 rfl rfl
  clear hK9
  refine W.widen (k := 1) (n := 8) (Nat.le_of_ble_eq_true rfl) (Nat.le_of_ble_eq_true rfl) ?_
  replace hP : va_P D vwCl [(h0, .inr (0, [.null, .null, .null, .null, .null, .int 0])), (q7, .inl (cI, 8, .inl (fun _ => 0)))] H := hP
  replace hD : va_D A [(h0, .inr (0, [.null, .null, .null, .null, .null, .int 0])), (q7, .inl (cI, 8, .inl (fun _ => 0)))] := hD
  refine va_putF (D := D) (ci := 0) (v := .ref q7) (ty := (.array .int)) (C := RX0) (T := TX0) (N := 6) hx hb hts iX0 tyX0 tyX0_ok nmX0 hown hK hP hD hS 0 rfl rfl 0 (by decide) hf11 (fun _ h9 => h9) rfl hin rfl (by decide +kernel) rfl rfl (Nat.le_of_ble_eq_true rfl) dX0_init_9 (fun H locs hP hD hS => ?_)
  replace hP : va_P D vwCl [(h0, .inr (0, [.ref q7, .null, .null, .null, .null, .int 0])), (q7, .inl (cI, 8, .inl (fun _ => 0)))] H := hP
  replace hD : va_D A [(h0, .inr (0, [.ref q7, .null, .null, .null, .null, .int 0])), (q7, .inl (cI, 8, .inl (fun _ => 0)))] := hD
  refine lv_aload_n hx hb dX0_init_12 rfl (lv_at hl 0 rfl) ?_
  refine lv_bipush (v := 8) hx hb dX0_init_13 (by decide) ?_
  refine va_newa (atype := .int) (ty := .int) (a0 := (8, .inl (fun _ => 0))) hx hb (hts _ mw_79) rfl hK hP hD hS hA (fun _ => rfl) (by decide) (by decide) (Nat.le_of_ble_eq_true rfl) (Nat.le_of_ble_eq_true rfl) (Nat.le_of_ble_eq_true rfl) dX0_init_15 (fun q15 cA H hK9 hP hD hS => ?_)
  obtain rfl : cI = cA := cls_int hK9 0 2 rfl rfl
  clear hK9
  refine W.widen (k := 2) (n := 16) (Nat.le_of_ble_eq_true rfl) (Nat.le_of_ble_eq_true rfl) ?_
  replace hP : va_P D vwCl [(h0, .inr (0, [.ref q7, .null, .null, .null, .null, .int 0])), (q7, .inl (cI, 8, .inl (fun _ => 0))), (q15, .inl (cI, 8, .inl (fun _ => 0)))] H := hP
  replace hD : va_D A [(h0, .inr (0, [.ref q7, .null, .null, .null, .null, .int 0])), (q7, .inl (cI, 8, .inl (fun _ => 0))), (q15, .inl (cI, 8, .inl (fun _ => 0)))] := hD
  refine va_putF (D := D) (ci := 0) (v := .ref q15) (ty := (.array .int)) (C := RX0) (T := TX0) (N := 6) hx hb hts iX0 tyX0 tyX0_ok nmX0 hown hK hP hD hS 0 rfl rfl 1 (by decide) hf15 (fun _ h9 => h9) rfl hin rfl (by decide +kernel) rfl rfl (Nat.le_of_ble_eq_true rfl) dX0_init_17 (fun H locs hP hD hS => ?_)
  replace hP : va_P D vwCl [(h0, .inr (0, [.ref q7, .ref q15, .null, .null, .null, .int 0])), (q7, .inl (cI, 8, .inl (fun _ => 0))), (q15, .inl (cI, 8, .inl (fun _ => 0)))] H := hP
  replace hD : va_D A [(h0, .inr (0, [.ref q7, .ref q15, .null, .null, .null, .int 0])), (q7, .inl (cI, 8, .inl (fun _ => 0))), (q15, .inl (cI, 8, .inl (fun _ => 0)))] := hD
  refine lv_aload_n hx hb dX0_init_20 rfl (lv_at hl 0 rfl) ?_
  refine lv_bipush (v := 8) hx hb dX0_init_21 (by decide) ?_
  refine va_newa (atype := .int) (ty := .int) (a0 := (8, .inl (fun _ => 0))) hx hb (hts _ mw_79) rfl hK hP hD hS hA (fun _ => rfl) (by decide) (by decide) (Nat.le_of_ble_eq_true rfl) (Nat.le_of_ble_eq_true rfl) (Nat.le_of_ble_eq_true rfl) dX0_init_23 (fun q23 cA H hK9 hP hD hS => ?_)
  obtain rfl : cI = cA := cls_int hK9 0 2 rfl rfl
  clear hK9
  refine W.widen (k := 3) (n := 24) (Nat.le_of_ble_eq_true rfl) (Nat.le_of_ble_eq_true rfl) ?_
  replace hP : va_P D vwCl [(h0, .inr (0, [.ref q7, .ref q15, .null, .null, .null, .int 0])), (q7, .inl (cI, 8, .inl (fun _ => 0))), (q15, .inl (cI, 8, .inl (fun _ => 0))), (q23, .inl (cI, 8, .inl (fun _ => 0)))] H := hP
  replace hD : va_D A [(h0, .inr (0, [.ref q7, .ref q15, .null, .null, .null, .int 0])), (q7, .inl (cI, 8, .inl (fun _ => 0))), (q15, .inl (cI, 8, .inl (fun _ => 0))), (q23, .inl (cI, 8, .inl (fun _ => 0)))] := hD
  refine va_putF (D := D) (ci := 0) (v := .ref q23) (ty := (.array .int)) (C := RX0) (T := TX0) (N := 6) hx hb hts iX0 tyX0 tyX0_ok nmX0 hown hK hP hD hS 0 rfl rfl 2 (by decide) hf18 (fun _ h9 => h9) rfl hin rfl (by decide +kernel) rfl rfl (Nat.le_of_ble_eq_true rfl) dX0_init_25 (fun H locs hP hD hS => ?_)
  replace hP : va_P D vwCl [(h0, .inr (0, [.ref q7, .ref q15, .ref q23, .null, .null, .int 0])), (q7, .inl (cI, 8, .inl (fun _ => 0))), (q15, .inl (cI, 8, .inl (fun _ => 0))), (q23, .inl (cI, 8, .inl (fun _ => 0)))] H := hP
  replace hD : va_D A [(h0, .inr (0, [.ref q7, .ref q15, .ref q23, .null, .null, .int 0])), (q7, .inl (cI, 8, .inl (fun _ => 0))), (q15, .inl (cI, 8, .inl (fun _ => 0))), (q23, .inl (cI, 8, .inl (fun _ => 0)))] := hD
  refine lv_aload_n hx hb dX0_init_28 rfl (lv_at hl 0 rfl) ?_
  refine lv_bipush (v := 8) hx hb dX0_init_29 (by decide) ?_
  refine va_newa (atype := .int) (ty := .int) (a0 := (8, .inl (fun _ => 0))) hx hb (hts _ mw_79) rfl hK hP hD hS hA (fun _ => rfl) (by decide) (by decide) (Nat.le_of_ble_eq_true rfl) (Nat.le_of_ble_eq_true rfl) (Nat.le_of_ble_eq_true rfl) dX0_init_31 (fun q31 cA H hK9 hP hD hS => ?_)
  obtain rfl : cI = cA := cls_int hK9 0 2 rfl rfl
  clear hK9
  refine W.widen (k := 4) (n := 32) (Nat.le_of_ble_eq_true rfl) (Nat.le_of_ble_eq_true rfl) ?_
  replace hP : va_P D vwCl [(h0, .inr (0, [.ref q7, .ref q15, .ref q23, .null, .null, .int 0])), (q7, .inl (cI, 8, .inl (fun _ => 0))), (q15, .inl (cI, 8, .inl (fun _ => 0))), (q23, .inl (cI, 8, .inl (fun _ => 0))), (q31, .inl (cI, 8, .inl (fun _ => 0)))] H := hP
  replace hD : va_D A [(h0, .inr (0, [.ref q7, .ref q15, .ref q23, .null, .null, .int 0])), (q7, .inl (cI, 8, .inl (fun _ => 0))), (q15, .inl (cI, 8, .inl (fun _ => 0))), (q23, .inl (cI, 8, .inl (fun _ => 0))), (q31, .inl (cI, 8, .inl (fun _ => 0)))] := hD
  refine va_putF (D := D) (ci := 0) (v := .ref q31) (ty := (.array .int)) (C := RX0) (T := TX0) (N := 6) hx hb hts iX0 tyX0 tyX0_ok nmX0 hown hK hP hD hS 0 rfl rfl 3 (by decide) hf21 (fun _ h9 => h9) rfl hin rfl (by decide +kernel) rfl rfl (Nat.le_of_ble_eq_true rfl) dX0_init_33 (fun H locs hP hD hS => ?_)
  replace hP : va_P D vwCl [(h0, .inr (0, [.ref q7, .ref q15, .ref q23, .ref q31, .null, .int 0])), (q7, .inl (cI, 8, .inl (fun _ => 0))), (q15, .inl (cI, 8, .inl (fun _ => 0))), (q23, .inl (cI, 8, .inl (fun _ => 0))), (q31, .inl (cI, 8, .inl (fun _ => 0)))] H := hP
  replace hD : va_D A [(h0, .inr (0, [.ref q7, .ref q15, .ref q23, .ref q31, .null, .int 0])), (q7, .inl (cI, 8, .inl (fun _ => 0))), (q15, .inl (cI, 8, .inl (fun _ => 0))), (q23, .inl (cI, 8, .inl (fun _ => 0))), (q31, .inl (cI, 8, .inl (fun _ => 0)))] := hD
  refine lv_aload_n hx hb dX0_init_36 rfl (lv_at hl 0 rfl) ?_
  refine lv_bipush (v := 8) hx hb dX0_init_37 (by decide) ?_
  refine va_newa (atype := .int) (ty := .int) (a0 := (8, .inl (fun _ => 0))) hx hb (hts _ mw_79) rfl hK hP hD hS hA (fun _ => rfl) (by decide) (by decide) (Nat.le_of_ble_eq_true rfl) (Nat.le_of_ble_eq_true rfl) (Nat.le_of_ble_eq_true rfl) dX0_init_39 (fun q39 cA H hK9 hP hD hS => ?_)
  obtain rfl : cI = cA := cls_int hK9 0 2 rfl rfl
  clear hK9
  refine W.widen (k := 5) (n := 40) (Nat.le_of_ble_eq_true rfl) (Nat.le_of_ble_eq_true rfl) ?_
  replace hP : va_P D vwCl [(h0, .inr (0, [.ref q7, .ref q15, .ref q23, .ref q31, .null, .int 0])), (q7, .inl (cI, 8, .inl (fun _ => 0))), (q15, .inl (cI, 8, .inl (fun _ => 0))), (q23, .inl (cI, 8, .inl (fun _ => 0))), (q31, .inl (cI, 8, .inl (fun _ => 0))), (q39, .inl (cI, 8, .inl (fun _ => 0)))] H := hP
  replace hD : va_D A [(h0, .inr (0, [.ref q7, .ref q15, .ref q23, .ref q31, .null, .int 0])), (q7, .inl (cI, 8, .inl (fun _ => 0))), (q15, .inl (cI, 8, .inl (fun _ => 0))), (q23, .inl (cI, 8, .inl (fun _ => 0))), (q31, .inl (cI, 8, .inl (fun _ => 0))), (q39, .inl (cI, 8, .inl (fun _ => 0)))] := hD
  refine va_putF (D := D) (ci := 0) (v := .ref q39) (ty := (.array .int)) (C := RX0) (T := TX0) (N := 6) hx hb hts iX0 tyX0 tyX0_ok nmX0 hown hK hP hD hS 0 rfl rfl 4 (by decide) hf24 (fun _ h9 => h9) rfl hin rfl (by decide +kernel) rfl rfl (Nat.le_of_ble_eq_true rfl) dX0_init_41 (fun H locs hP hD hS => ?_)
  replace hP : va_P D vwCl [(h0, .inr (0, [.ref q7, .ref q15, .ref q23, .ref q31, .ref q39, .int 0])), (q7, .inl (cI, 8, .inl (fun _ => 0))), (q15, .inl (cI, 8, .inl (fun _ => 0))), (q23, .inl (cI, 8, .inl (fun _ => 0))), (q31, .inl (cI, 8, .inl (fun _ => 0))), (q39, .inl (cI, 8, .inl (fun _ => 0)))] H := hP
  replace hD : va_D A [(h0, .inr (0, [.ref q7, .ref q15, .ref q23, .ref q31, .ref q39, .int 0])), (q7, .inl (cI, 8, .inl (fun _ => 0))), (q15, .inl (cI, 8, .inl (fun _ => 0))), (q23, .inl (cI, 8, .inl (fun _ => 0))), (q31, .inl (cI, 8, .inl (fun _ => 0))), (q39, .inl (cI, 8, .inl (fun _ => 0)))] := hD
  refine lv_aload_n hx hb dX0_init_44 rfl (lv_at hl 0 rfl) ?_
  refine lv_iconst (v := 0) hx hb dX0_init_45 (by decide) ?_
  refine va_put (D := D) (ci := 0) (v := .int 0) (ty := .int) (C := RX0) (T := TX0) (N := 6) hx hb hts iX0 tyX0 tyX0_ok nmX0 hown hK hP hD hS 0 rfl rfl 5 (by decide) hf27 (fun _ h9 => h9) rfl (by decide +kernel) rfl rfl (Nat.le_of_ble_eq_true rfl) dX0_init_46 (fun H locs hP hD hS => ?_)
  replace hP : va_P D vwCl [(h0, .inr (0, [.ref q7, .ref q15, .ref q23, .ref q31, .ref q39, .int 0])), (q7, .inl (cI, 8, .inl (fun _ => 0))), (q15, .inl (cI, 8, .inl (fun _ => 0))), (q23, .inl (cI, 8, .inl (fun _ => 0))), (q31, .inl (cI, 8, .inl (fun _ => 0))), (q39, .inl (cI, 8, .inl (fun _ => 0)))] H := hP
  replace hD : va_D A [(h0, .inr (0, [.ref q7, .ref q15, .ref q23, .ref q31, .ref q39, .int 0])), (q7, .inl (cI, 8, .inl (fun _ => 0))), (q15, .inl (cI, 8, .inl (fun _ => 0))), (q23, .inl (cI, 8, .inl (fun _ => 0))), (q31, .inl (cI, 8, .inl (fun _ => 0))), (q39, .inl (cI, 8, .inl (fun _ => 0)))] := hD
  exact cc_cret (fun k => ([h0, q7, q15, q23, q31, q39] : List Nat).getD k 0) hx hb hr hQ hK rfl rfl (hP.sub [0, 1, 2, 3, 4, 5] rfl) (hD.sub [0, 1, 2, 3, 4, 5] (by decide) rfl) hS dX0_init_49 hlocks

def rc_X5 : Room := { frames := 1, cells := 1, slots := 720, locals := 14 }
set_option maxHeartbeats 4000000 in
set_option maxRecDepth 100000 in
theorem kc_X5 (l : Launch) (D : va_G) (cI cZ : ClassId) (h0 : Nat) : MC l yX5_init (wm yX5_init cX5_init 1 none) rc_X5 D [(cI, .int), (cZ, .boolean)] [(h0, .inr (5, [.null]))] (fun ad => [(ad 0, .inr (5, [.ref (ad 1)])), (ad 1, .inl (cI, 720, .inl (fun _ => 0)))]) h0 1 720 := by
  intro sz
  refine Met.ofW (cc := cX5_init) (maxL := 1) (ret := none) (by decide) rfl ?_
  intro p e s m args below meth c s₁ B hml hv
  obtain ⟨rfl, hsz, hP, hK, hD0, hZ⟩ := hv
  have hx := B.exec
  have hb := B.bytes
  have hr := B.returns
  have hts : ∀ w ∈ Wall, w.before _ s = true := fun w hw => atoms_spec (ws := wm yX5_init cX5_init 1 none) B.pre w (List.mem_cons_of_mem _ hw)
  have hown : s.vm.findClass RX5 = some m.cls := findClass_of_methodNamed B.named
  have hlocks := B.notSynchronized
  have hin : meth.name = "<init>" := (name_of_methodNamed B.named B.method).1
  subst hsz
  have hD := hD0.self (sz := s.heap.size)
  generalize hAe : va_A [(h0, .inr (5, [.null]))] s.heap.size = A at hD hZ ⊢
  have hA : ∀ q : Nat, s.heap.size ≤ q → A q := fun q h => by rw [← hAe]; exact Or.inr h
  have hS : va_S A s.heap s.heap [] := va_S.rf
  have hf11 := hts _ mw_223
  have hl := lv_entry ([.ref h0]) (n := 1) (Nat.le_of_ble_eq_true rfl)
  rw [lg_entry_eq]
  generalize (lg_sl ([.ref h0]) ++ List.replicate (1 - (lg_sl ([.ref h0])).length) Slot.unset).toArray = ls at hl ⊢
  replace hl : lv_has ls 1 [(0, .ref h0)] := hl
  refine w_gen (fun Q hQ => ?_)
  refine lv_aload_n hx hb dX5_init_0 rfl (lv_at hl 0 rfl) ?_
  refine W.objInit hx hb hown (hts _ mw_222) (hts _ mw_42) (hts _ mw_43) rfl (by rw [hml]; exact hl.1) rfl dX5_init_1 (Nat.le_of_ble_eq_true rfl) (Nat.le_of_ble_eq_true rfl) ?_
  refine W.eq (g2 := F0 m 4 ls []) rfl ?_
  refine lv_aload_n hx hb dX5_init_4 rfl (lv_at hl 0 rfl) ?_
  refine lv_sipush (v := 720) hx hb dX5_init_5 (by decide) ?_
  refine va_newa (atype := .int) (ty := .int) (a0 := (720, .inl (fun _ => 0))) hx hb (hts _ mw_79) rfl hK hP hD hS hA (fun _ => rfl) (by decide) (by decide) (Nat.le_of_ble_eq_true rfl) (Nat.le_of_ble_eq_true rfl) (Nat.le_of_ble_eq_true rfl) dX5_init_8 (fun q8 cA H hK9 hP hD hS => ?_)
  obtain rfl : cI = cA := cls_int hK9 0 2 rfl rfl
  clear hK9
  refine W.widen (k := 1) (n := 720) (Nat.le_of_ble_eq_true rfl) (Nat.le_of_ble_eq_true rfl) ?_
  replace hP : va_P D vwCl [(h0, .inr (5, [.null])), (q8, .inl (cI, 720, .inl (fun _ => 0)))] H := hP
  replace hD : va_D A [(h0, .inr (5, [.null])), (q8, .inl (cI, 720, .inl (fun _ => 0)))] := hD
  refine va_putF (D := D) (ci := 5) (v := .ref q8) (ty := (.array .int)) (C := RX5) (T := TX5) (N := 1) hx hb hts iX5 tyX5 tyX5_ok nmX5 hown hK hP hD hS 0 rfl rfl 0 (by decide) hf11 (fun _ h9 => h9) rfl hin rfl (by decide +kernel) rfl rfl (Nat.le_of_ble_eq_true rfl) dX5_init_10 (fun H locs hP hD hS => ?_)
  replace hP : va_P D vwCl [(h0, .inr (5, [.ref q8])), (q8, .inl (cI, 720, .inl (fun _ => 0)))] H := hP
  replace hD : va_D A [(h0, .inr (5, [.ref q8])), (q8, .inl (cI, 720, .inl (fun _ => 0)))] := hD
  exact cc_cret (fun k => ([h0, q8] : List Nat).getD k 0) hx hb hr hQ hK rfl rfl (hP.sub [0, 1] rfl) (hD.sub [0, 1] (by decide) rfl) hS dX5_init_13 hlocks

def rc_X9 : Room := { frames := 4, cells := 34, slots := 1173, locals := 94 }
def u0_X9 (vX7 : I7) (vX3 : I3) (vX6 : I6) : GS := ((0 : Int32), ((fun _ => 0), (fun _ => 0), (fun _ => 0), (0 : Int32), (0 : Int32), (0 : Int32), (0 : Int32)), ((fun _ => 0), (fun _ => 0)), vX7, vX3, vX6, ((fun _ => 0), (fun _ => 0), (fun _ => 0), (0 : Int32)), ((fun _ => 0), (upd (upd (upd (fun _ => 0) (0 : Int32).toNatClampNeg (-1)) (1 : Int32).toNatClampNeg (-1)) (2 : Int32).toNatClampNeg (-1)), (fun _ => 0)), ((fun _ => 0), (fun _ => 0), (fun _ => 0), (fun _ => 0), (fun _ => 0), (0 : Int32)), (fun _ => 0))
set_option maxHeartbeats 4000000 in
set_option maxRecDepth 100000 in
theorem kc_X9 (l : Launch) (D : va_G) (cI cZ : ClassId) (h0 : Nat) (vX7 : I7) (hiX7 : g_X7_init2 u0_X7 = some vX7) (vX3 : I3) (hiX3 : g_X3_init2 u0_X3 = some vX3) (vX6 : I6) (hiX6 : g_X6_init2 u0_X6 = some vX6) (w' : GS) (h : g_X9_init2 (u0_X9 vX7 vX3 vX6) = some w') : MC l yX9_init (wm yX9_init cX9_init 1 none) rc_X9 D [(cI, .int), (cZ, .boolean)] [(h0, .inr (9, [.int 0, .null, .null, .null, .null, .null, .null, .null, .null, .null]))] (fun ad => wC cI cZ ad w') h0 34 1173 := by
  intro sz
  refine Met.ofW (cc := cX9_init) (maxL := 1) (ret := none) (by decide) rfl ?_
  intro p e s m args below meth c s₁ B hml hv
  obtain ⟨rfl, hsz, hP, hK, hD0, hZ⟩ := hv
  have hx := B.exec
  have hb := B.bytes
  have hr := B.returns
  have hts : ∀ w ∈ Wall, w.before _ s = true := fun w hw => atoms_spec (ws := wm yX9_init cX9_init 1 none) B.pre w (List.mem_cons_of_mem _ hw)
  have hown : s.vm.findClass RX9 = some m.cls := findClass_of_methodNamed B.named
  have hlocks := B.notSynchronized
  have hin : meth.name = "<init>" := (name_of_methodNamed B.named B.method).1
  subst hsz
  have hD := hD0.self (sz := s.heap.size)
  generalize hAe : va_A [(h0, .inr (9, [.int 0, .null, .null, .null, .null, .null, .null, .null, .null, .null]))] s.heap.size = A at hD hZ ⊢
  have hA : ∀ q : Nat, s.heap.size ≤ q → A q := fun q h => by rw [← hAe]; exact Or.inr h
  have hS : va_S A s.heap s.heap [] := va_S.rf
  have hf7 := hts _ mw_274
  have hf16 := hts _ mw_275
  have hf23 := hts _ mw_276
  have hf30 := hts _ mw_277
  have hf37 := hts _ mw_278
  have hf44 := hts _ mw_279
  have hf51 := hts _ mw_280
  have hf58 := hts _ mw_281
  have hf65 := hts _ mw_282
  have hf72 := hts _ mw_283
  have hf80 := hts _ mw_105
  have hf84 := hts _ mw_128
  have hl := lv_entry ([.ref h0]) (n := 1) (Nat.le_of_ble_eq_true rfl)
  rw [lg_entry_eq]
  generalize (lg_sl ([.ref h0]) ++ List.replicate (1 - (lg_sl ([.ref h0])).length) Slot.unset).toArray = ls at hl ⊢
  replace hl : lv_has ls 1 [(0, .ref h0)] := hl
  refine w_gen (fun Q hQ => ?_)
  refine lv_aload_n hx hb dX9_init_0 rfl (lv_at hl 0 rfl) ?_
  refine W.objInit hx hb hown (hts _ mw_41) (hts _ mw_42) (hts _ mw_43) rfl (by rw [hml]; exact hl.1) rfl dX9_init_1 (Nat.le_of_ble_eq_true rfl) (Nat.le_of_ble_eq_true rfl) ?_
  refine W.eq (g2 := F0 m 4 ls []) rfl ?_
  refine lv_aload_n hx hb dX9_init_4 rfl (lv_at hl 0 rfl) ?_
  refine lv_iconst (v := 0) hx hb dX9_init_5 (by decide) ?_
  refine va_put (D := D) (ci := 9) (v := .int 0) (ty := .int) (C := RX9) (T := TX9) (N := 10) hx hb hts iX9 tyX9 tyX9_ok nmX9 hown hK hP hD hS 0 rfl rfl 0 (by decide) hf7 (fun _ h9 => h9) rfl (by decide +kernel) rfl rfl (Nat.le_of_ble_eq_true rfl) dX9_init_6 (fun H locs hP hD hS => ?_)
  replace hP : va_P D vwCl [(h0, .inr (9, [.int 0, .null, .null, .null, .null, .null, .null, .null, .null, .null]))] H := hP
  replace hD : va_D A [(h0, .inr (9, [.int 0, .null, .null, .null, .null, .null, .null, .null, .null, .null]))] := hD
  refine lv_aload_n hx hb dX9_init_9 rfl (lv_at hl 0 rfl) ?_
  refine va_new (ci := 8) (fs := [.null, .null, .null, .int 0, .int 0, .int 0, .int 0]) (C := RX8) (T := TX8) (N := 7) hx hb hts iX8 tyX8 tyX8_ok hown (hts _ mw_44) (hts _ mw_45) (hts _ mw_20) hK hP hD hS hA rfl (fun j hj => by rcases (show j = 0 ∨ j = 1 ∨ j = 2 ∨ j = 3 ∨ j = 4 ∨ j = 5 ∨ j = 6 by omega) with rfl | rfl | rfl | rfl | rfl | rfl | rfl <;> rfl) (Nat.le_of_ble_eq_true rfl) (Nat.le_of_ble_eq_true rfl) dX9_init_10 (fun q10 H hP hD hS => ?_)
  refine W.widen (k := 1) (n := 7) (Nat.le_of_ble_eq_true rfl) (Nat.le_of_ble_eq_true rfl) ?_
  replace hP : va_P D vwCl [(h0, .inr (9, [.int 0, .null, .null, .null, .null, .null, .null, .null, .null, .null])), (q10, .inr (8, [.null, .null, .null, .int 0, .int 0, .int 0, .int 0]))] H := hP
  replace hD : va_D A [(h0, .inr (9, [.int 0, .null, .null, .null, .null, .null, .null, .null, .null, .null])), (q10, .inr (8, [.null, .null, .null, .int 0, .int 0, .int 0, .int 0]))] := hD
  refine lv_dup hx hb dX9_init_13 rfl ?_
  refine cc_cIN (rest := [.ref q10, .ref h0]) (wr := [(h0, .inr (9, [.int 0, .null, .null, .null, .null, .null, .null, .null, .null, .null]))]) ⟨hx, hb, hml, hown, hts⟩ (kc_X8 l D cI cZ q10) ⟨va_cnB 0 hts (gwM mw_48) rfl rfl rfl (hZ.1 ("RedcrossGantry", 15, yX8_init) (by decide +kernel)) (hts _ mw_20) (by decide +kernel) ⟨Nat.le_of_ble_eq_true rfl, Nat.le_of_ble_eq_true rfl⟩, rfl, hts _ mw_47⟩ hK hP hD hS hA hZ [1] [0] rfl rfl (by decide) rfl (by decide) (by decide) hl.1 rfl (Nat.le_of_ble_eq_true rfl) dX9_init_14 ⟨Nat.le_of_ble_eq_true rfl, Nat.le_of_ble_eq_true rfl⟩ (fun aX8 H locs eaX8 hP9 hD9 hS => ?_)
  subst eaX8
  refine W.widen (k := 4) (n := 115) (Nat.le_of_ble_eq_true rfl) (Nat.le_of_ble_eq_true rfl) ?_
  replace hP : va_P D vwCl [(h0, .inr (9, [.int 0, .null, .null, .null, .null, .null, .null, .null, .null, .null])), ((aX8 0), .inr (8, [.ref (aX8 1), .ref (aX8 2), .ref (aX8 3), .int 0, .int 0, .int 0, .int 0])), ((aX8 1), .inl (cI, 48, .inl (fun _ => 0))), ((aX8 2), .inl (cZ, 48, .inl (fun _ => 0))), ((aX8 3), .inl (cZ, 12, .inl (fun _ => 0)))] H := hP9
  replace hD : va_D A [(h0, .inr (9, [.int 0, .null, .null, .null, .null, .null, .null, .null, .null, .null])), ((aX8 0), .inr (8, [.ref (aX8 1), .ref (aX8 2), .ref (aX8 3), .int 0, .int 0, .int 0, .int 0])), ((aX8 1), .inl (cI, 48, .inl (fun _ => 0))), ((aX8 2), .inl (cZ, 48, .inl (fun _ => 0))), ((aX8 3), .inl (cZ, 12, .inl (fun _ => 0)))] := hD9
  refine va_putF (D := D) (ci := 9) (v := .ref (aX8 0)) (ty := (.object "RedcrossGantry$Traffic")) (C := RX9) (T := TX9) (N := 10) hx hb hts iX9 tyX9 tyX9_ok nmX9 hown hK hP hD hS 0 rfl rfl 1 (by decide) hf16 (fun _ h9 => h9) rfl hin rfl (by decide +kernel) rfl rfl (Nat.le_of_ble_eq_true rfl) dX9_init_17 (fun H locs hP hD hS => ?_)
  replace hP : va_P D vwCl [(h0, .inr (9, [.int 0, .ref (aX8 0), .null, .null, .null, .null, .null, .null, .null, .null])), ((aX8 0), .inr (8, [.ref (aX8 1), .ref (aX8 2), .ref (aX8 3), .int 0, .int 0, .int 0, .int 0])), ((aX8 1), .inl (cI, 48, .inl (fun _ => 0))), ((aX8 2), .inl (cZ, 48, .inl (fun _ => 0))), ((aX8 3), .inl (cZ, 12, .inl (fun _ => 0)))] H := hP
  replace hD : va_D A [(h0, .inr (9, [.int 0, .ref (aX8 0), .null, .null, .null, .null, .null, .null, .null, .null])), ((aX8 0), .inr (8, [.ref (aX8 1), .ref (aX8 2), .ref (aX8 3), .int 0, .int 0, .int 0, .int 0])), ((aX8 1), .inl (cI, 48, .inl (fun _ => 0))), ((aX8 2), .inl (cZ, 48, .inl (fun _ => 0))), ((aX8 3), .inl (cZ, 12, .inl (fun _ => 0)))] := hD
  refine lv_aload_n hx hb dX9_init_20 rfl (lv_at hl 0 rfl) ?_
  refine va_new (ci := 1) (fs := [.null, .null]) (C := RX1) (T := TX1) (N := 2) hx hb hts iX1 tyX1 tyX1_ok hown (hts _ mw_81) (hts _ mw_82) (hts _ mw_21) hK hP hD hS hA rfl (fun j hj => by rcases (show j = 0 ∨ j = 1 by omega) with rfl | rfl <;> rfl) (Nat.le_of_ble_eq_true rfl) (Nat.le_of_ble_eq_true rfl) dX9_init_21 (fun q21 H hP hD hS => ?_)
  refine W.widen (k := 5) (n := 117) (Nat.le_of_ble_eq_true rfl) (Nat.le_of_ble_eq_true rfl) ?_
  replace hP : va_P D vwCl [(h0, .inr (9, [.int 0, .ref (aX8 0), .null, .null, .null, .null, .null, .null, .null, .null])), ((aX8 0), .inr (8, [.ref (aX8 1), .ref (aX8 2), .ref (aX8 3), .int 0, .int 0, .int 0, .int 0])), ((aX8 1), .inl (cI, 48, .inl (fun _ => 0))), ((aX8 2), .inl (cZ, 48, .inl (fun _ => 0))), ((aX8 3), .inl (cZ, 12, .inl (fun _ => 0))), (q21, .inr (1, [.null, .null]))] H := hP
  replace hD : va_D A [(h0, .inr (9, [.int 0, .ref (aX8 0), .null, .null, .null, .null, .null, .null, .null, .null])), ((aX8 0), .inr (8, [.ref (aX8 1), .ref (aX8 2), .ref (aX8 3), .int 0, .int 0, .int 0, .int 0])), ((aX8 1), .inl (cI, 48, .inl (fun _ => 0))), ((aX8 2), .inl (cZ, 48, .inl (fun _ => 0))), ((aX8 3), .inl (cZ, 12, .inl (fun _ => 0))), (q21, .inr (1, [.null, .null]))] := hD
  refine lv_dup hx hb dX9_init_24 rfl ?_
  refine cc_cIN (rest := [.ref q21, .ref h0]) (wr := [(h0, .inr (9, [.int 0, .ref (aX8 0), .null, .null, .null, .null, .null, .null, .null, .null])), ((aX8 0), .inr (8, [.ref (aX8 1), .ref (aX8 2), .ref (aX8 3), .int 0, .int 0, .int 0, .int 0])), ((aX8 1), .inl (cI, 48, .inl (fun _ => 0))), ((aX8 2), .inl (cZ, 48, .inl (fun _ => 0))), ((aX8 3), .inl (cZ, 12, .inl (fun _ => 0)))]) ⟨hx, hb, hml, hown, hts⟩ (kc_X1 l D cI cZ q21) ⟨va_cnB 0 hts (gwM mw_85) rfl rfl rfl (hZ.1 ("RedcrossGantry", 22, yX1_init) (by decide +kernel)) (hts _ mw_21) (by decide +kernel) ⟨Nat.le_of_ble_eq_true rfl, Nat.le_of_ble_eq_true rfl⟩, rfl, hts _ mw_84⟩ hK hP hD hS hA hZ [5] [0, 1, 2, 3, 4] rfl rfl (by decide) rfl (by decide) (by decide) hl.1 rfl (Nat.le_of_ble_eq_true rfl) dX9_init_25 ⟨Nat.le_of_ble_eq_true rfl, Nat.le_of_ble_eq_true rfl⟩ (fun aX1 H locs eaX1 hP9 hD9 hS => ?_)
  subst eaX1
  refine W.widen (k := 7) (n := 141) (Nat.le_of_ble_eq_true rfl) (Nat.le_of_ble_eq_true rfl) ?_
  replace hP : va_P D vwCl [(h0, .inr (9, [.int 0, .ref (aX8 0), .null, .null, .null, .null, .null, .null, .null, .null])), ((aX8 0), .inr (8, [.ref (aX8 1), .ref (aX8 2), .ref (aX8 3), .int 0, .int 0, .int 0, .int 0])), ((aX8 1), .inl (cI, 48, .inl (fun _ => 0))), ((aX8 2), .inl (cZ, 48, .inl (fun _ => 0))), ((aX8 3), .inl (cZ, 12, .inl (fun _ => 0))), ((aX1 0), .inr (1, [.ref (aX1 1), .ref (aX1 2)])), ((aX1 1), .inl (cI, 12, .inl (fun _ => 0))), ((aX1 2), .inl (cI, 12, .inl (fun _ => 0)))] H := hP9
  replace hD : va_D A [(h0, .inr (9, [.int 0, .ref (aX8 0), .null, .null, .null, .null, .null, .null, .null, .null])), ((aX8 0), .inr (8, [.ref (aX8 1), .ref (aX8 2), .ref (aX8 3), .int 0, .int 0, .int 0, .int 0])), ((aX8 1), .inl (cI, 48, .inl (fun _ => 0))), ((aX8 2), .inl (cZ, 48, .inl (fun _ => 0))), ((aX8 3), .inl (cZ, 12, .inl (fun _ => 0))), ((aX1 0), .inr (1, [.ref (aX1 1), .ref (aX1 2)])), ((aX1 1), .inl (cI, 12, .inl (fun _ => 0))), ((aX1 2), .inl (cI, 12, .inl (fun _ => 0)))] := hD9
  refine va_putF (D := D) (ci := 9) (v := .ref (aX1 0)) (ty := (.object "RedcrossGantry$Detectors")) (C := RX9) (T := TX9) (N := 10) hx hb hts iX9 tyX9 tyX9_ok nmX9 hown hK hP hD hS 0 rfl rfl 2 (by decide) hf23 (fun _ h9 => h9) rfl hin rfl (by decide +kernel) rfl rfl (Nat.le_of_ble_eq_true rfl) dX9_init_28 (fun H locs hP hD hS => ?_)
  replace hP : va_P D vwCl [(h0, .inr (9, [.int 0, .ref (aX8 0), .ref (aX1 0), .null, .null, .null, .null, .null, .null, .null])), ((aX8 0), .inr (8, [.ref (aX8 1), .ref (aX8 2), .ref (aX8 3), .int 0, .int 0, .int 0, .int 0])), ((aX8 1), .inl (cI, 48, .inl (fun _ => 0))), ((aX8 2), .inl (cZ, 48, .inl (fun _ => 0))), ((aX8 3), .inl (cZ, 12, .inl (fun _ => 0))), ((aX1 0), .inr (1, [.ref (aX1 1), .ref (aX1 2)])), ((aX1 1), .inl (cI, 12, .inl (fun _ => 0))), ((aX1 2), .inl (cI, 12, .inl (fun _ => 0)))] H := hP
  replace hD : va_D A [(h0, .inr (9, [.int 0, .ref (aX8 0), .ref (aX1 0), .null, .null, .null, .null, .null, .null, .null])), ((aX8 0), .inr (8, [.ref (aX8 1), .ref (aX8 2), .ref (aX8 3), .int 0, .int 0, .int 0, .int 0])), ((aX8 1), .inl (cI, 48, .inl (fun _ => 0))), ((aX8 2), .inl (cZ, 48, .inl (fun _ => 0))), ((aX8 3), .inl (cZ, 12, .inl (fun _ => 0))), ((aX1 0), .inr (1, [.ref (aX1 1), .ref (aX1 2)])), ((aX1 1), .inl (cI, 12, .inl (fun _ => 0))), ((aX1 2), .inl (cI, 12, .inl (fun _ => 0)))] := hD
  refine lv_aload_n hx hb dX9_init_31 rfl (lv_at hl 0 rfl) ?_
  refine va_new (ci := 7) (fs := [.null, .null, .null, .int 0]) (C := RX7) (T := TX7) (N := 4) hx hb hts iX7 tyX7 tyX7_ok hown (hts _ mw_96) (hts _ mw_97) (hts _ mw_22) hK hP hD hS hA rfl (fun j hj => by rcases (show j = 0 ∨ j = 1 ∨ j = 2 ∨ j = 3 by omega) with rfl | rfl | rfl | rfl <;> rfl) (Nat.le_of_ble_eq_true rfl) (Nat.le_of_ble_eq_true rfl) dX9_init_32 (fun q32 H hP hD hS => ?_)
  refine W.widen (k := 8) (n := 145) (Nat.le_of_ble_eq_true rfl) (Nat.le_of_ble_eq_true rfl) ?_
  replace hP : va_P D vwCl [(h0, .inr (9, [.int 0, .ref (aX8 0), .ref (aX1 0), .null, .null, .null, .null, .null, .null, .null])), ((aX8 0), .inr (8, [.ref (aX8 1), .ref (aX8 2), .ref (aX8 3), .int 0, .int 0, .int 0, .int 0])), ((aX8 1), .inl (cI, 48, .inl (fun _ => 0))), ((aX8 2), .inl (cZ, 48, .inl (fun _ => 0))), ((aX8 3), .inl (cZ, 12, .inl (fun _ => 0))), ((aX1 0), .inr (1, [.ref (aX1 1), .ref (aX1 2)])), ((aX1 1), .inl (cI, 12, .inl (fun _ => 0))), ((aX1 2), .inl (cI, 12, .inl (fun _ => 0))), (q32, .inr (7, [.null, .null, .null, .int 0]))] H := hP
  replace hD : va_D A [(h0, .inr (9, [.int 0, .ref (aX8 0), .ref (aX1 0), .null, .null, .null, .null, .null, .null, .null])), ((aX8 0), .inr (8, [.ref (aX8 1), .ref (aX8 2), .ref (aX8 3), .int 0, .int 0, .int 0, .int 0])), ((aX8 1), .inl (cI, 48, .inl (fun _ => 0))), ((aX8 2), .inl (cZ, 48, .inl (fun _ => 0))), ((aX8 3), .inl (cZ, 12, .inl (fun _ => 0))), ((aX1 0), .inr (1, [.ref (aX1 1), .ref (aX1 2)])), ((aX1 1), .inl (cI, 12, .inl (fun _ => 0))), ((aX1 2), .inl (cI, 12, .inl (fun _ => 0))), (q32, .inr (7, [.null, .null, .null, .int 0]))] := hD
  refine lv_dup hx hb dX9_init_35 rfl ?_
  refine cc_cI (rest := [.ref q32, .ref h0]) (wr := [(h0, .inr (9, [.int 0, .ref (aX8 0), .ref (aX1 0), .null, .null, .null, .null, .null, .null, .null])), ((aX8 0), .inr (8, [.ref (aX8 1), .ref (aX8 2), .ref (aX8 3), .int 0, .int 0, .int 0, .int 0])), ((aX8 1), .inl (cI, 48, .inl (fun _ => 0))), ((aX8 2), .inl (cZ, 48, .inl (fun _ => 0))), ((aX8 3), .inl (cZ, 12, .inl (fun _ => 0))), ((aX1 0), .inr (1, [.ref (aX1 1), .ref (aX1 2)])), ((aX1 1), .inl (cI, 12, .inl (fun _ => 0))), ((aX1 2), .inl (cI, 12, .inl (fun _ => 0)))]) ⟨hx, hb, hml, hown, hts⟩ (kc_X7 l D cI cZ q32 vX7 hiX7) (cwI 0 hts (gwM mw_100) rfl rfl rfl (hts _ mw_22) (hts _ mw_98) (hts _ mw_99) rfl (by decide +kernel) ⟨Nat.le_of_ble_eq_true rfl, Nat.le_of_ble_eq_true rfl⟩) hK hP hD hS hA hZ [8] [0, 1, 2, 3, 4, 5, 6, 7] rfl rfl (by decide) rfl (by decide) (by decide) hl.1 rfl (Nat.le_of_ble_eq_true rfl) dX9_init_36 ⟨Nat.le_of_ble_eq_true rfl, Nat.le_of_ble_eq_true rfl⟩ (fun aX7 H locs eaX7 hP9 hD9 hS => ?_)
  subst eaX7
  refine W.widen (k := 11) (n := 181) (Nat.le_of_ble_eq_true rfl) (Nat.le_of_ble_eq_true rfl) ?_
  replace hP : va_P D vwCl [(h0, .inr (9, [.int 0, .ref (aX8 0), .ref (aX1 0), .null, .null, .null, .null, .null, .null, .null])), ((aX8 0), .inr (8, [.ref (aX8 1), .ref (aX8 2), .ref (aX8 3), .int 0, .int 0, .int 0, .int 0])), ((aX8 1), .inl (cI, 48, .inl (fun _ => 0))), ((aX8 2), .inl (cZ, 48, .inl (fun _ => 0))), ((aX8 3), .inl (cZ, 12, .inl (fun _ => 0))), ((aX1 0), .inr (1, [.ref (aX1 1), .ref (aX1 2)])), ((aX1 1), .inl (cI, 12, .inl (fun _ => 0))), ((aX1 2), .inl (cI, 12, .inl (fun _ => 0))), ((aX7 0), .inr (7, [.ref (aX7 1), .ref (aX7 2), .ref (aX7 3), .int (i7_weather vX7)])), ((aX7 1), .inl (cI, 12, .inl (i7_limits vX7))), ((aX7 2), .inl (cI, 12, .inl (i7_shown vX7))), ((aX7 3), .inl (cI, 12, .inl (i7_loweredAt vX7)))] H := hP9
  replace hD : va_D A [(h0, .inr (9, [.int 0, .ref (aX8 0), .ref (aX1 0), .null, .null, .null, .null, .null, .null, .null])), ((aX8 0), .inr (8, [.ref (aX8 1), .ref (aX8 2), .ref (aX8 3), .int 0, .int 0, .int 0, .int 0])), ((aX8 1), .inl (cI, 48, .inl (fun _ => 0))), ((aX8 2), .inl (cZ, 48, .inl (fun _ => 0))), ((aX8 3), .inl (cZ, 12, .inl (fun _ => 0))), ((aX1 0), .inr (1, [.ref (aX1 1), .ref (aX1 2)])), ((aX1 1), .inl (cI, 12, .inl (fun _ => 0))), ((aX1 2), .inl (cI, 12, .inl (fun _ => 0))), ((aX7 0), .inr (7, [.ref (aX7 1), .ref (aX7 2), .ref (aX7 3), .int (i7_weather vX7)])), ((aX7 1), .inl (cI, 12, .inl (i7_limits vX7))), ((aX7 2), .inl (cI, 12, .inl (i7_shown vX7))), ((aX7 3), .inl (cI, 12, .inl (i7_loweredAt vX7)))] := hD9
  refine va_putF (D := D) (ci := 9) (v := .ref (aX7 0)) (ty := (.object "RedcrossGantry$SpeedSigns")) (C := RX9) (T := TX9) (N := 10) hx hb hts iX9 tyX9 tyX9_ok nmX9 hown hK hP hD hS 0 rfl rfl 3 (by decide) hf30 (fun _ h9 => h9) rfl hin rfl (by decide +kernel) rfl rfl (Nat.le_of_ble_eq_true rfl) dX9_init_39 (fun H locs hP hD hS => ?_)
  replace hP : va_P D vwCl [(h0, .inr (9, [.int 0, .ref (aX8 0), .ref (aX1 0), .ref (aX7 0), .null, .null, .null, .null, .null, .null])), ((aX8 0), .inr (8, [.ref (aX8 1), .ref (aX8 2), .ref (aX8 3), .int 0, .int 0, .int 0, .int 0])), ((aX8 1), .inl (cI, 48, .inl (fun _ => 0))), ((aX8 2), .inl (cZ, 48, .inl (fun _ => 0))), ((aX8 3), .inl (cZ, 12, .inl (fun _ => 0))), ((aX1 0), .inr (1, [.ref (aX1 1), .ref (aX1 2)])), ((aX1 1), .inl (cI, 12, .inl (fun _ => 0))), ((aX1 2), .inl (cI, 12, .inl (fun _ => 0))), ((aX7 0), .inr (7, [.ref (aX7 1), .ref (aX7 2), .ref (aX7 3), .int (i7_weather vX7)])), ((aX7 1), .inl (cI, 12, .inl (i7_limits vX7))), ((aX7 2), .inl (cI, 12, .inl (i7_shown vX7))), ((aX7 3), .inl (cI, 12, .inl (i7_loweredAt vX7)))] H := hP
  replace hD : va_D A [(h0, .inr (9, [.int 0, .ref (aX8 0), .ref (aX1 0), .ref (aX7 0), .null, .null, .null, .null, .null, .null])), ((aX8 0), .inr (8, [.ref (aX8 1), .ref (aX8 2), .ref (aX8 3), .int 0, .int 0, .int 0, .int 0])), ((aX8 1), .inl (cI, 48, .inl (fun _ => 0))), ((aX8 2), .inl (cZ, 48, .inl (fun _ => 0))), ((aX8 3), .inl (cZ, 12, .inl (fun _ => 0))), ((aX1 0), .inr (1, [.ref (aX1 1), .ref (aX1 2)])), ((aX1 1), .inl (cI, 12, .inl (fun _ => 0))), ((aX1 2), .inl (cI, 12, .inl (fun _ => 0))), ((aX7 0), .inr (7, [.ref (aX7 1), .ref (aX7 2), .ref (aX7 3), .int (i7_weather vX7)])), ((aX7 1), .inl (cI, 12, .inl (i7_limits vX7))), ((aX7 2), .inl (cI, 12, .inl (i7_shown vX7))), ((aX7 3), .inl (cI, 12, .inl (i7_loweredAt vX7)))] := hD
  refine lv_aload_n hx hb dX9_init_42 rfl (lv_at hl 0 rfl) ?_
  refine va_new (ci := 3) (fs := [.null, .null, .null]) (C := RX3) (T := TX3) (N := 3) hx hb hts iX3 tyX3 tyX3_ok hown (hts _ mw_118) (hts _ mw_119) (hts _ mw_23) hK hP hD hS hA rfl (fun j hj => by rcases (show j = 0 ∨ j = 1 ∨ j = 2 by omega) with rfl | rfl | rfl <;> rfl) (Nat.le_of_ble_eq_true rfl) (Nat.le_of_ble_eq_true rfl) dX9_init_43 (fun q43 H hP hD hS => ?_)
  refine W.widen (k := 12) (n := 184) (Nat.le_of_ble_eq_true rfl) (Nat.le_of_ble_eq_true rfl) ?_
  replace hP : va_P D vwCl [(h0, .inr (9, [.int 0, .ref (aX8 0), .ref (aX1 0), .ref (aX7 0), .null, .null, .null, .null, .null, .null])), ((aX8 0), .inr (8, [.ref (aX8 1), .ref (aX8 2), .ref (aX8 3), .int 0, .int 0, .int 0, .int 0])), ((aX8 1), .inl (cI, 48, .inl (fun _ => 0))), ((aX8 2), .inl (cZ, 48, .inl (fun _ => 0))), ((aX8 3), .inl (cZ, 12, .inl (fun _ => 0))), ((aX1 0), .inr (1, [.ref (aX1 1), .ref (aX1 2)])), ((aX1 1), .inl (cI, 12, .inl (fun _ => 0))), ((aX1 2), .inl (cI, 12, .inl (fun _ => 0))), ((aX7 0), .inr (7, [.ref (aX7 1), .ref (aX7 2), .ref (aX7 3), .int (i7_weather vX7)])), ((aX7 1), .inl (cI, 12, .inl (i7_limits vX7))), ((aX7 2), .inl (cI, 12, .inl (i7_shown vX7))), ((aX7 3), .inl (cI, 12, .inl (i7_loweredAt vX7))), (q43, .inr (3, [.null, .null, .null]))] H := hP
  replace hD : va_D A [(h0, .inr (9, [.int 0, .ref (aX8 0), .ref (aX1 0), .ref (aX7 0), .null, .null, .null, .null, .null, .null])), ((aX8 0), .inr (8, [.ref (aX8 1), .ref (aX8 2), .ref (aX8 3), .int 0, .int 0, .int 0, .int 0])), ((aX8 1), .inl (cI, 48, .inl (fun _ => 0))), ((aX8 2), .inl (cZ, 48, .inl (fun _ => 0))), ((aX8 3), .inl (cZ, 12, .inl (fun _ => 0))), ((aX1 0), .inr (1, [.ref (aX1 1), .ref (aX1 2)])), ((aX1 1), .inl (cI, 12, .inl (fun _ => 0))), ((aX1 2), .inl (cI, 12, .inl (fun _ => 0))), ((aX7 0), .inr (7, [.ref (aX7 1), .ref (aX7 2), .ref (aX7 3), .int (i7_weather vX7)])), ((aX7 1), .inl (cI, 12, .inl (i7_limits vX7))), ((aX7 2), .inl (cI, 12, .inl (i7_shown vX7))), ((aX7 3), .inl (cI, 12, .inl (i7_loweredAt vX7))), (q43, .inr (3, [.null, .null, .null]))] := hD
  refine lv_dup hx hb dX9_init_46 rfl ?_
  refine cc_cI (rest := [.ref q43, .ref h0]) (wr := [(h0, .inr (9, [.int 0, .ref (aX8 0), .ref (aX1 0), .ref (aX7 0), .null, .null, .null, .null, .null, .null])), ((aX8 0), .inr (8, [.ref (aX8 1), .ref (aX8 2), .ref (aX8 3), .int 0, .int 0, .int 0, .int 0])), ((aX8 1), .inl (cI, 48, .inl (fun _ => 0))), ((aX8 2), .inl (cZ, 48, .inl (fun _ => 0))), ((aX8 3), .inl (cZ, 12, .inl (fun _ => 0))), ((aX1 0), .inr (1, [.ref (aX1 1), .ref (aX1 2)])), ((aX1 1), .inl (cI, 12, .inl (fun _ => 0))), ((aX1 2), .inl (cI, 12, .inl (fun _ => 0))), ((aX7 0), .inr (7, [.ref (aX7 1), .ref (aX7 2), .ref (aX7 3), .int (i7_weather vX7)])), ((aX7 1), .inl (cI, 12, .inl (i7_limits vX7))), ((aX7 2), .inl (cI, 12, .inl (i7_shown vX7))), ((aX7 3), .inl (cI, 12, .inl (i7_loweredAt vX7)))]) ⟨hx, hb, hml, hown, hts⟩ (kc_X3 l D cI cZ q43 vX3 hiX3) (cwI 0 hts (gwM mw_122) rfl rfl rfl (hts _ mw_23) (hts _ mw_120) (hts _ mw_121) rfl (by decide +kernel) ⟨Nat.le_of_ble_eq_true rfl, Nat.le_of_ble_eq_true rfl⟩) hK hP hD hS hA hZ [12] [0, 1, 2, 3, 4, 5, 6, 7, 8, 9, 10, 11] rfl rfl (by decide) rfl (by decide) (by decide) hl.1 rfl (Nat.le_of_ble_eq_true rfl) dX9_init_47 ⟨Nat.le_of_ble_eq_true rfl, Nat.le_of_ble_eq_true rfl⟩ (fun aX3 H locs eaX3 hP9 hD9 hS => ?_)
  subst eaX3
  refine W.widen (k := 15) (n := 328) (Nat.le_of_ble_eq_true rfl) (Nat.le_of_ble_eq_true rfl) ?_
  replace hP : va_P D vwCl [(h0, .inr (9, [.int 0, .ref (aX8 0), .ref (aX1 0), .ref (aX7 0), .null, .null, .null, .null, .null, .null])), ((aX8 0), .inr (8, [.ref (aX8 1), .ref (aX8 2), .ref (aX8 3), .int 0, .int 0, .int 0, .int 0])), ((aX8 1), .inl (cI, 48, .inl (fun _ => 0))), ((aX8 2), .inl (cZ, 48, .inl (fun _ => 0))), ((aX8 3), .inl (cZ, 12, .inl (fun _ => 0))), ((aX1 0), .inr (1, [.ref (aX1 1), .ref (aX1 2)])), ((aX1 1), .inl (cI, 12, .inl (fun _ => 0))), ((aX1 2), .inl (cI, 12, .inl (fun _ => 0))), ((aX7 0), .inr (7, [.ref (aX7 1), .ref (aX7 2), .ref (aX7 3), .int (i7_weather vX7)])), ((aX7 1), .inl (cI, 12, .inl (i7_limits vX7))), ((aX7 2), .inl (cI, 12, .inl (i7_shown vX7))), ((aX7 3), .inl (cI, 12, .inl (i7_loweredAt vX7))), ((aX3 0), .inr (3, [.ref (aX3 1), .ref (aX3 2), .ref (aX3 3)])), ((aX3 1), .inl (cI, 48, .inl (i3_orders vX3))), ((aX3 2), .inl (cI, 48, .inl (i3_told vX3))), ((aX3 3), .inl (cI, 48, .inl (i3_shown vX3)))] H := hP9
  replace hD : va_D A [(h0, .inr (9, [.int 0, .ref (aX8 0), .ref (aX1 0), .ref (aX7 0), .null, .null, .null, .null, .null, .null])), ((aX8 0), .inr (8, [.ref (aX8 1), .ref (aX8 2), .ref (aX8 3), .int 0, .int 0, .int 0, .int 0])), ((aX8 1), .inl (cI, 48, .inl (fun _ => 0))), ((aX8 2), .inl (cZ, 48, .inl (fun _ => 0))), ((aX8 3), .inl (cZ, 12, .inl (fun _ => 0))), ((aX1 0), .inr (1, [.ref (aX1 1), .ref (aX1 2)])), ((aX1 1), .inl (cI, 12, .inl (fun _ => 0))), ((aX1 2), .inl (cI, 12, .inl (fun _ => 0))), ((aX7 0), .inr (7, [.ref (aX7 1), .ref (aX7 2), .ref (aX7 3), .int (i7_weather vX7)])), ((aX7 1), .inl (cI, 12, .inl (i7_limits vX7))), ((aX7 2), .inl (cI, 12, .inl (i7_shown vX7))), ((aX7 3), .inl (cI, 12, .inl (i7_loweredAt vX7))), ((aX3 0), .inr (3, [.ref (aX3 1), .ref (aX3 2), .ref (aX3 3)])), ((aX3 1), .inl (cI, 48, .inl (i3_orders vX3))), ((aX3 2), .inl (cI, 48, .inl (i3_told vX3))), ((aX3 3), .inl (cI, 48, .inl (i3_shown vX3)))] := hD9
  refine va_putF (D := D) (ci := 9) (v := .ref (aX3 0)) (ty := (.object "RedcrossGantry$LaneSigns")) (C := RX9) (T := TX9) (N := 10) hx hb hts iX9 tyX9 tyX9_ok nmX9 hown hK hP hD hS 0 rfl rfl 4 (by decide) hf37 (fun _ h9 => h9) rfl hin rfl (by decide +kernel) rfl rfl (Nat.le_of_ble_eq_true rfl) dX9_init_50 (fun H locs hP hD hS => ?_)
  replace hP : va_P D vwCl [(h0, .inr (9, [.int 0, .ref (aX8 0), .ref (aX1 0), .ref (aX7 0), .ref (aX3 0), .null, .null, .null, .null, .null])), ((aX8 0), .inr (8, [.ref (aX8 1), .ref (aX8 2), .ref (aX8 3), .int 0, .int 0, .int 0, .int 0])), ((aX8 1), .inl (cI, 48, .inl (fun _ => 0))), ((aX8 2), .inl (cZ, 48, .inl (fun _ => 0))), ((aX8 3), .inl (cZ, 12, .inl (fun _ => 0))), ((aX1 0), .inr (1, [.ref (aX1 1), .ref (aX1 2)])), ((aX1 1), .inl (cI, 12, .inl (fun _ => 0))), ((aX1 2), .inl (cI, 12, .inl (fun _ => 0))), ((aX7 0), .inr (7, [.ref (aX7 1), .ref (aX7 2), .ref (aX7 3), .int (i7_weather vX7)])), ((aX7 1), .inl (cI, 12, .inl (i7_limits vX7))), ((aX7 2), .inl (cI, 12, .inl (i7_shown vX7))), ((aX7 3), .inl (cI, 12, .inl (i7_loweredAt vX7))), ((aX3 0), .inr (3, [.ref (aX3 1), .ref (aX3 2), .ref (aX3 3)])), ((aX3 1), .inl (cI, 48, .inl (i3_orders vX3))), ((aX3 2), .inl (cI, 48, .inl (i3_told vX3))), ((aX3 3), .inl (cI, 48, .inl (i3_shown vX3)))] H := hP
  replace hD : va_D A [(h0, .inr (9, [.int 0, .ref (aX8 0), .ref (aX1 0), .ref (aX7 0), .ref (aX3 0), .null, .null, .null, .null, .null])), ((aX8 0), .inr (8, [.ref (aX8 1), .ref (aX8 2), .ref (aX8 3), .int 0, .int 0, .int 0, .int 0])), ((aX8 1), .inl (cI, 48, .inl (fun _ => 0))), ((aX8 2), .inl (cZ, 48, .inl (fun _ => 0))), ((aX8 3), .inl (cZ, 12, .inl (fun _ => 0))), ((aX1 0), .inr (1, [.ref (aX1 1), .ref (aX1 2)])), ((aX1 1), .inl (cI, 12, .inl (fun _ => 0))), ((aX1 2), .inl (cI, 12, .inl (fun _ => 0))), ((aX7 0), .inr (7, [.ref (aX7 1), .ref (aX7 2), .ref (aX7 3), .int (i7_weather vX7)])), ((aX7 1), .inl (cI, 12, .inl (i7_limits vX7))), ((aX7 2), .inl (cI, 12, .inl (i7_shown vX7))), ((aX7 3), .inl (cI, 12, .inl (i7_loweredAt vX7))), ((aX3 0), .inr (3, [.ref (aX3 1), .ref (aX3 2), .ref (aX3 3)])), ((aX3 1), .inl (cI, 48, .inl (i3_orders vX3))), ((aX3 2), .inl (cI, 48, .inl (i3_told vX3))), ((aX3 3), .inl (cI, 48, .inl (i3_shown vX3)))] := hD
  refine lv_aload_n hx hb dX9_init_53 rfl (lv_at hl 0 rfl) ?_
  refine va_new (ci := 6) (fs := [.null, .null]) (C := RX6) (T := TX6) (N := 2) hx hb hts iX6 tyX6 tyX6_ok hown (hts _ mw_136) (hts _ mw_137) (hts _ mw_24) hK hP hD hS hA rfl (fun j hj => by rcases (show j = 0 ∨ j = 1 by omega) with rfl | rfl <;> rfl) (Nat.le_of_ble_eq_true rfl) (Nat.le_of_ble_eq_true rfl) dX9_init_54 (fun q54 H hP hD hS => ?_)
  refine W.widen (k := 16) (n := 330) (Nat.le_of_ble_eq_true rfl) (Nat.le_of_ble_eq_true rfl) ?_
  replace hP : va_P D vwCl [(h0, .inr (9, [.int 0, .ref (aX8 0), .ref (aX1 0), .ref (aX7 0), .ref (aX3 0), .null, .null, .null, .null, .null])), ((aX8 0), .inr (8, [.ref (aX8 1), .ref (aX8 2), .ref (aX8 3), .int 0, .int 0, .int 0, .int 0])), ((aX8 1), .inl (cI, 48, .inl (fun _ => 0))), ((aX8 2), .inl (cZ, 48, .inl (fun _ => 0))), ((aX8 3), .inl (cZ, 12, .inl (fun _ => 0))), ((aX1 0), .inr (1, [.ref (aX1 1), .ref (aX1 2)])), ((aX1 1), .inl (cI, 12, .inl (fun _ => 0))), ((aX1 2), .inl (cI, 12, .inl (fun _ => 0))), ((aX7 0), .inr (7, [.ref (aX7 1), .ref (aX7 2), .ref (aX7 3), .int (i7_weather vX7)])), ((aX7 1), .inl (cI, 12, .inl (i7_limits vX7))), ((aX7 2), .inl (cI, 12, .inl (i7_shown vX7))), ((aX7 3), .inl (cI, 12, .inl (i7_loweredAt vX7))), ((aX3 0), .inr (3, [.ref (aX3 1), .ref (aX3 2), .ref (aX3 3)])), ((aX3 1), .inl (cI, 48, .inl (i3_orders vX3))), ((aX3 2), .inl (cI, 48, .inl (i3_told vX3))), ((aX3 3), .inl (cI, 48, .inl (i3_shown vX3))), (q54, .inr (6, [.null, .null]))] H := hP
  replace hD : va_D A [(h0, .inr (9, [.int 0, .ref (aX8 0), .ref (aX1 0), .ref (aX7 0), .ref (aX3 0), .null, .null, .null, .null, .null])), ((aX8 0), .inr (8, [.ref (aX8 1), .ref (aX8 2), .ref (aX8 3), .int 0, .int 0, .int 0, .int 0])), ((aX8 1), .inl (cI, 48, .inl (fun _ => 0))), ((aX8 2), .inl (cZ, 48, .inl (fun _ => 0))), ((aX8 3), .inl (cZ, 12, .inl (fun _ => 0))), ((aX1 0), .inr (1, [.ref (aX1 1), .ref (aX1 2)])), ((aX1 1), .inl (cI, 12, .inl (fun _ => 0))), ((aX1 2), .inl (cI, 12, .inl (fun _ => 0))), ((aX7 0), .inr (7, [.ref (aX7 1), .ref (aX7 2), .ref (aX7 3), .int (i7_weather vX7)])), ((aX7 1), .inl (cI, 12, .inl (i7_limits vX7))), ((aX7 2), .inl (cI, 12, .inl (i7_shown vX7))), ((aX7 3), .inl (cI, 12, .inl (i7_loweredAt vX7))), ((aX3 0), .inr (3, [.ref (aX3 1), .ref (aX3 2), .ref (aX3 3)])), ((aX3 1), .inl (cI, 48, .inl (i3_orders vX3))), ((aX3 2), .inl (cI, 48, .inl (i3_told vX3))), ((aX3 3), .inl (cI, 48, .inl (i3_shown vX3))), (q54, .inr (6, [.null, .null]))] := hD
  refine lv_dup hx hb dX9_init_57 rfl ?_
  refine cc_cI (rest := [.ref q54, .ref h0]) (wr := [(h0, .inr (9, [.int 0, .ref (aX8 0), .ref (aX1 0), .ref (aX7 0), .ref (aX3 0), .null, .null, .null, .null, .null])), ((aX8 0), .inr (8, [.ref (aX8 1), .ref (aX8 2), .ref (aX8 3), .int 0, .int 0, .int 0, .int 0])), ((aX8 1), .inl (cI, 48, .inl (fun _ => 0))), ((aX8 2), .inl (cZ, 48, .inl (fun _ => 0))), ((aX8 3), .inl (cZ, 12, .inl (fun _ => 0))), ((aX1 0), .inr (1, [.ref (aX1 1), .ref (aX1 2)])), ((aX1 1), .inl (cI, 12, .inl (fun _ => 0))), ((aX1 2), .inl (cI, 12, .inl (fun _ => 0))), ((aX7 0), .inr (7, [.ref (aX7 1), .ref (aX7 2), .ref (aX7 3), .int (i7_weather vX7)])), ((aX7 1), .inl (cI, 12, .inl (i7_limits vX7))), ((aX7 2), .inl (cI, 12, .inl (i7_shown vX7))), ((aX7 3), .inl (cI, 12, .inl (i7_loweredAt vX7))), ((aX3 0), .inr (3, [.ref (aX3 1), .ref (aX3 2), .ref (aX3 3)])), ((aX3 1), .inl (cI, 48, .inl (i3_orders vX3))), ((aX3 2), .inl (cI, 48, .inl (i3_told vX3))), ((aX3 3), .inl (cI, 48, .inl (i3_shown vX3)))]) ⟨hx, hb, hml, hown, hts⟩ (kc_X6 l D cI cZ q54 vX6 hiX6) (cwI 0 hts (gwM mw_140) rfl rfl rfl (hts _ mw_24) (hts _ mw_138) (hts _ mw_139) rfl (by decide +kernel) ⟨Nat.le_of_ble_eq_true rfl, Nat.le_of_ble_eq_true rfl⟩) hK hP hD hS hA hZ [16] [0, 1, 2, 3, 4, 5, 6, 7, 8, 9, 10, 11, 12, 13, 14, 15] rfl rfl (by decide) rfl (by decide) (by decide) hl.1 rfl (Nat.le_of_ble_eq_true rfl) dX9_init_58 ⟨Nat.le_of_ble_eq_true rfl, Nat.le_of_ble_eq_true rfl⟩ (fun aX6 H locs eaX6 hP9 hD9 hS => ?_)
  subst eaX6
  refine W.widen (k := 18) (n := 354) (Nat.le_of_ble_eq_true rfl) (Nat.le_of_ble_eq_true rfl) ?_
  replace hP : va_P D vwCl [(h0, .inr (9, [.int 0, .ref (aX8 0), .ref (aX1 0), .ref (aX7 0), .ref (aX3 0), .null, .null, .null, .null, .null])), ((aX8 0), .inr (8, [.ref (aX8 1), .ref (aX8 2), .ref (aX8 3), .int 0, .int 0, .int 0, .int 0])), ((aX8 1), .inl (cI, 48, .inl (fun _ => 0))), ((aX8 2), .inl (cZ, 48, .inl (fun _ => 0))), ((aX8 3), .inl (cZ, 12, .inl (fun _ => 0))), ((aX1 0), .inr (1, [.ref (aX1 1), .ref (aX1 2)])), ((aX1 1), .inl (cI, 12, .inl (fun _ => 0))), ((aX1 2), .inl (cI, 12, .inl (fun _ => 0))), ((aX7 0), .inr (7, [.ref (aX7 1), .ref (aX7 2), .ref (aX7 3), .int (i7_weather vX7)])), ((aX7 1), .inl (cI, 12, .inl (i7_limits vX7))), ((aX7 2), .inl (cI, 12, .inl (i7_shown vX7))), ((aX7 3), .inl (cI, 12, .inl (i7_loweredAt vX7))), ((aX3 0), .inr (3, [.ref (aX3 1), .ref (aX3 2), .ref (aX3 3)])), ((aX3 1), .inl (cI, 48, .inl (i3_orders vX3))), ((aX3 2), .inl (cI, 48, .inl (i3_told vX3))), ((aX3 3), .inl (cI, 48, .inl (i3_shown vX3))), ((aX6 0), .inr (6, [.ref (aX6 1), .ref (aX6 2)])), ((aX6 1), .inl (cZ, 12, .inl (i6_open vX6))), ((aX6 2), .inl (cI, 12, .inl (i6_foundClearAt vX6)))] H := hP9
  replace hD : va_D A [(h0, .inr (9, [.int 0, .ref (aX8 0), .ref (aX1 0), .ref (aX7 0), .ref (aX3 0), .null, .null, .null, .null, .null])), ((aX8 0), .inr (8, [.ref (aX8 1), .ref (aX8 2), .ref (aX8 3), .int 0, .int 0, .int 0, .int 0])), ((aX8 1), .inl (cI, 48, .inl (fun _ => 0))), ((aX8 2), .inl (cZ, 48, .inl (fun _ => 0))), ((aX8 3), .inl (cZ, 12, .inl (fun _ => 0))), ((aX1 0), .inr (1, [.ref (aX1 1), .ref (aX1 2)])), ((aX1 1), .inl (cI, 12, .inl (fun _ => 0))), ((aX1 2), .inl (cI, 12, .inl (fun _ => 0))), ((aX7 0), .inr (7, [.ref (aX7 1), .ref (aX7 2), .ref (aX7 3), .int (i7_weather vX7)])), ((aX7 1), .inl (cI, 12, .inl (i7_limits vX7))), ((aX7 2), .inl (cI, 12, .inl (i7_shown vX7))), ((aX7 3), .inl (cI, 12, .inl (i7_loweredAt vX7))), ((aX3 0), .inr (3, [.ref (aX3 1), .ref (aX3 2), .ref (aX3 3)])), ((aX3 1), .inl (cI, 48, .inl (i3_orders vX3))), ((aX3 2), .inl (cI, 48, .inl (i3_told vX3))), ((aX3 3), .inl (cI, 48, .inl (i3_shown vX3))), ((aX6 0), .inr (6, [.ref (aX6 1), .ref (aX6 2)])), ((aX6 1), .inl (cZ, 12, .inl (i6_open vX6))), ((aX6 2), .inl (cI, 12, .inl (i6_foundClearAt vX6)))] := hD9
  refine va_putF (D := D) (ci := 9) (v := .ref (aX6 0)) (ty := (.object "RedcrossGantry$Shoulder")) (C := RX9) (T := TX9) (N := 10) hx hb hts iX9 tyX9 tyX9_ok nmX9 hown hK hP hD hS 0 rfl rfl 5 (by decide) hf44 (fun _ h9 => h9) rfl hin rfl (by decide +kernel) rfl rfl (Nat.le_of_ble_eq_true rfl) dX9_init_61 (fun H locs hP hD hS => ?_)
  replace hP : va_P D vwCl [(h0, .inr (9, [.int 0, .ref (aX8 0), .ref (aX1 0), .ref (aX7 0), .ref (aX3 0), .ref (aX6 0), .null, .null, .null, .null])), ((aX8 0), .inr (8, [.ref (aX8 1), .ref (aX8 2), .ref (aX8 3), .int 0, .int 0, .int 0, .int 0])), ((aX8 1), .inl (cI, 48, .inl (fun _ => 0))), ((aX8 2), .inl (cZ, 48, .inl (fun _ => 0))), ((aX8 3), .inl (cZ, 12, .inl (fun _ => 0))), ((aX1 0), .inr (1, [.ref (aX1 1), .ref (aX1 2)])), ((aX1 1), .inl (cI, 12, .inl (fun _ => 0))), ((aX1 2), .inl (cI, 12, .inl (fun _ => 0))), ((aX7 0), .inr (7, [.ref (aX7 1), .ref (aX7 2), .ref (aX7 3), .int (i7_weather vX7)])), ((aX7 1), .inl (cI, 12, .inl (i7_limits vX7))), ((aX7 2), .inl (cI, 12, .inl (i7_shown vX7))), ((aX7 3), .inl (cI, 12, .inl (i7_loweredAt vX7))), ((aX3 0), .inr (3, [.ref (aX3 1), .ref (aX3 2), .ref (aX3 3)])), ((aX3 1), .inl (cI, 48, .inl (i3_orders vX3))), ((aX3 2), .inl (cI, 48, .inl (i3_told vX3))), ((aX3 3), .inl (cI, 48, .inl (i3_shown vX3))), ((aX6 0), .inr (6, [.ref (aX6 1), .ref (aX6 2)])), ((aX6 1), .inl (cZ, 12, .inl (i6_open vX6))), ((aX6 2), .inl (cI, 12, .inl (i6_foundClearAt vX6)))] H := hP
  replace hD : va_D A [(h0, .inr (9, [.int 0, .ref (aX8 0), .ref (aX1 0), .ref (aX7 0), .ref (aX3 0), .ref (aX6 0), .null, .null, .null, .null])), ((aX8 0), .inr (8, [.ref (aX8 1), .ref (aX8 2), .ref (aX8 3), .int 0, .int 0, .int 0, .int 0])), ((aX8 1), .inl (cI, 48, .inl (fun _ => 0))), ((aX8 2), .inl (cZ, 48, .inl (fun _ => 0))), ((aX8 3), .inl (cZ, 12, .inl (fun _ => 0))), ((aX1 0), .inr (1, [.ref (aX1 1), .ref (aX1 2)])), ((aX1 1), .inl (cI, 12, .inl (fun _ => 0))), ((aX1 2), .inl (cI, 12, .inl (fun _ => 0))), ((aX7 0), .inr (7, [.ref (aX7 1), .ref (aX7 2), .ref (aX7 3), .int (i7_weather vX7)])), ((aX7 1), .inl (cI, 12, .inl (i7_limits vX7))), ((aX7 2), .inl (cI, 12, .inl (i7_shown vX7))), ((aX7 3), .inl (cI, 12, .inl (i7_loweredAt vX7))), ((aX3 0), .inr (3, [.ref (aX3 1), .ref (aX3 2), .ref (aX3 3)])), ((aX3 1), .inl (cI, 48, .inl (i3_orders vX3))), ((aX3 2), .inl (cI, 48, .inl (i3_told vX3))), ((aX3 3), .inl (cI, 48, .inl (i3_shown vX3))), ((aX6 0), .inr (6, [.ref (aX6 1), .ref (aX6 2)])), ((aX6 1), .inl (cZ, 12, .inl (i6_open vX6))), ((aX6 2), .inl (cI, 12, .inl (i6_foundClearAt vX6)))] := hD
  refine lv_aload_n hx hb dX9_init_64 rfl (lv_at hl 0 rfl) ?_
  refine va_new (ci := 2) (fs := [.null, .null, .null, .int 0]) (C := RX2) (T := TX2) (N := 4) hx hb hts iX2 tyX2 tyX2_ok hown (hts _ mw_150) (hts _ mw_151) (hts _ mw_25) hK hP hD hS hA rfl (fun j hj => by rcases (show j = 0 ∨ j = 1 ∨ j = 2 ∨ j = 3 by omega) with rfl | rfl | rfl | rfl <;> rfl) (Nat.le_of_ble_eq_true rfl) (Nat.le_of_ble_eq_true rfl) dX9_init_65 (fun q65 H hP hD hS => ?_)
  refine W.widen (k := 19) (n := 358) (Nat.le_of_ble_eq_true rfl) (Nat.le_of_ble_eq_true rfl) ?_
  replace hP : va_P D vwCl [(h0, .inr (9, [.int 0, .ref (aX8 0), .ref (aX1 0), .ref (aX7 0), .ref (aX3 0), .ref (aX6 0), .null, .null, .null, .null])), ((aX8 0), .inr (8, [.ref (aX8 1), .ref (aX8 2), .ref (aX8 3), .int 0, .int 0, .int 0, .int 0])), ((aX8 1), .inl (cI, 48, .inl (fun _ => 0))), ((aX8 2), .inl (cZ, 48, .inl (fun _ => 0))), ((aX8 3), .inl (cZ, 12, .inl (fun _ => 0))), ((aX1 0), .inr (1, [.ref (aX1 1), .ref (aX1 2)])), ((aX1 1), .inl (cI, 12, .inl (fun _ => 0))), ((aX1 2), .inl (cI, 12, .inl (fun _ => 0))), ((aX7 0), .inr (7, [.ref (aX7 1), .ref (aX7 2), .ref (aX7 3), .int (i7_weather vX7)])), ((aX7 1), .inl (cI, 12, .inl (i7_limits vX7))), ((aX7 2), .inl (cI, 12, .inl (i7_shown vX7))), ((aX7 3), .inl (cI, 12, .inl (i7_loweredAt vX7))), ((aX3 0), .inr (3, [.ref (aX3 1), .ref (aX3 2), .ref (aX3 3)])), ((aX3 1), .inl (cI, 48, .inl (i3_orders vX3))), ((aX3 2), .inl (cI, 48, .inl (i3_told vX3))), ((aX3 3), .inl (cI, 48, .inl (i3_shown vX3))), ((aX6 0), .inr (6, [.ref (aX6 1), .ref (aX6 2)])), ((aX6 1), .inl (cZ, 12, .inl (i6_open vX6))), ((aX6 2), .inl (cI, 12, .inl (i6_foundClearAt vX6))), (q65, .inr (2, [.null, .null, .null, .int 0]))] H := hP
  replace hD : va_D A [(h0, .inr (9, [.int 0, .ref (aX8 0), .ref (aX1 0), .ref (aX7 0), .ref (aX3 0), .ref (aX6 0), .null, .null, .null, .null])), ((aX8 0), .inr (8, [.ref (aX8 1), .ref (aX8 2), .ref (aX8 3), .int 0, .int 0, .int 0, .int 0])), ((aX8 1), .inl (cI, 48, .inl (fun _ => 0))), ((aX8 2), .inl (cZ, 48, .inl (fun _ => 0))), ((aX8 3), .inl (cZ, 12, .inl (fun _ => 0))), ((aX1 0), .inr (1, [.ref (aX1 1), .ref (aX1 2)])), ((aX1 1), .inl (cI, 12, .inl (fun _ => 0))), ((aX1 2), .inl (cI, 12, .inl (fun _ => 0))), ((aX7 0), .inr (7, [.ref (aX7 1), .ref (aX7 2), .ref (aX7 3), .int (i7_weather vX7)])), ((aX7 1), .inl (cI, 12, .inl (i7_limits vX7))), ((aX7 2), .inl (cI, 12, .inl (i7_shown vX7))), ((aX7 3), .inl (cI, 12, .inl (i7_loweredAt vX7))), ((aX3 0), .inr (3, [.ref (aX3 1), .ref (aX3 2), .ref (aX3 3)])), ((aX3 1), .inl (cI, 48, .inl (i3_orders vX3))), ((aX3 2), .inl (cI, 48, .inl (i3_told vX3))), ((aX3 3), .inl (cI, 48, .inl (i3_shown vX3))), ((aX6 0), .inr (6, [.ref (aX6 1), .ref (aX6 2)])), ((aX6 1), .inl (cZ, 12, .inl (i6_open vX6))), ((aX6 2), .inl (cI, 12, .inl (i6_foundClearAt vX6))), (q65, .inr (2, [.null, .null, .null, .int 0]))] := hD
  refine lv_dup hx hb dX9_init_68 rfl ?_
  refine cc_cIN (rest := [.ref q65, .ref h0]) (wr := [(h0, .inr (9, [.int 0, .ref (aX8 0), .ref (aX1 0), .ref (aX7 0), .ref (aX3 0), .ref (aX6 0), .null, .null, .null, .null])), ((aX8 0), .inr (8, [.ref (aX8 1), .ref (aX8 2), .ref (aX8 3), .int 0, .int 0, .int 0, .int 0])), ((aX8 1), .inl (cI, 48, .inl (fun _ => 0))), ((aX8 2), .inl (cZ, 48, .inl (fun _ => 0))), ((aX8 3), .inl (cZ, 12, .inl (fun _ => 0))), ((aX1 0), .inr (1, [.ref (aX1 1), .ref (aX1 2)])), ((aX1 1), .inl (cI, 12, .inl (fun _ => 0))), ((aX1 2), .inl (cI, 12, .inl (fun _ => 0))), ((aX7 0), .inr (7, [.ref (aX7 1), .ref (aX7 2), .ref (aX7 3), .int (i7_weather vX7)])), ((aX7 1), .inl (cI, 12, .inl (i7_limits vX7))), ((aX7 2), .inl (cI, 12, .inl (i7_shown vX7))), ((aX7 3), .inl (cI, 12, .inl (i7_loweredAt vX7))), ((aX3 0), .inr (3, [.ref (aX3 1), .ref (aX3 2), .ref (aX3 3)])), ((aX3 1), .inl (cI, 48, .inl (i3_orders vX3))), ((aX3 2), .inl (cI, 48, .inl (i3_told vX3))), ((aX3 3), .inl (cI, 48, .inl (i3_shown vX3))), ((aX6 0), .inr (6, [.ref (aX6 1), .ref (aX6 2)])), ((aX6 1), .inl (cZ, 12, .inl (i6_open vX6))), ((aX6 2), .inl (cI, 12, .inl (i6_foundClearAt vX6)))]) ⟨hx, hb, hml, hown, hts⟩ (kc_X2 l D cI cZ q65) ⟨va_cnB 0 hts (gwM mw_154) rfl rfl rfl (hZ.1 ("RedcrossGantry", 50, yX2_init) (by decide +kernel)) (hts _ mw_25) (by decide +kernel) ⟨Nat.le_of_ble_eq_true rfl, Nat.le_of_ble_eq_true rfl⟩, rfl, hts _ mw_153⟩ hK hP hD hS hA hZ [19] [0, 1, 2, 3, 4, 5, 6, 7, 8, 9, 10, 11, 12, 13, 14, 15, 16, 17, 18] rfl rfl (by decide) rfl (by decide) (by decide) hl.1 rfl (Nat.le_of_ble_eq_true rfl) dX9_init_69 ⟨Nat.le_of_ble_eq_true rfl, Nat.le_of_ble_eq_true rfl⟩ (fun aX2 H locs eaX2 hP9 hD9 hS => ?_)
  subst eaX2
  refine W.widen (k := 22) (n := 394) (Nat.le_of_ble_eq_true rfl) (Nat.le_of_ble_eq_true rfl) ?_
  replace hP : va_P D vwCl [(h0, .inr (9, [.int 0, .ref (aX8 0), .ref (aX1 0), .ref (aX7 0), .ref (aX3 0), .ref (aX6 0), .null, .null, .null, .null])), ((aX8 0), .inr (8, [.ref (aX8 1), .ref (aX8 2), .ref (aX8 3), .int 0, .int 0, .int 0, .int 0])), ((aX8 1), .inl (cI, 48, .inl (fun _ => 0))), ((aX8 2), .inl (cZ, 48, .inl (fun _ => 0))), ((aX8 3), .inl (cZ, 12, .inl (fun _ => 0))), ((aX1 0), .inr (1, [.ref (aX1 1), .ref (aX1 2)])), ((aX1 1), .inl (cI, 12, .inl (fun _ => 0))), ((aX1 2), .inl (cI, 12, .inl (fun _ => 0))), ((aX7 0), .inr (7, [.ref (aX7 1), .ref (aX7 2), .ref (aX7 3), .int (i7_weather vX7)])), ((aX7 1), .inl (cI, 12, .inl (i7_limits vX7))), ((aX7 2), .inl (cI, 12, .inl (i7_shown vX7))), ((aX7 3), .inl (cI, 12, .inl (i7_loweredAt vX7))), ((aX3 0), .inr (3, [.ref (aX3 1), .ref (aX3 2), .ref (aX3 3)])), ((aX3 1), .inl (cI, 48, .inl (i3_orders vX3))), ((aX3 2), .inl (cI, 48, .inl (i3_told vX3))), ((aX3 3), .inl (cI, 48, .inl (i3_shown vX3))), ((aX6 0), .inr (6, [.ref (aX6 1), .ref (aX6 2)])), ((aX6 1), .inl (cZ, 12, .inl (i6_open vX6))), ((aX6 2), .inl (cI, 12, .inl (i6_foundClearAt vX6))), ((aX2 0), .inr (2, [.ref (aX2 1), .ref (aX2 2), .ref (aX2 3), .int 0])), ((aX2 1), .inl (cI, 12, .inl (fun _ => 0))), ((aX2 2), .inl (cI, 12, .inl (fun _ => 0))), ((aX2 3), .inl (cI, 12, .inl (fun _ => 0)))] H := hP9
  replace hD : va_D A [(h0, .inr (9, [.int 0, .ref (aX8 0), .ref (aX1 0), .ref (aX7 0), .ref (aX3 0), .ref (aX6 0), .null, .null, .null, .null])), ((aX8 0), .inr (8, [.ref (aX8 1), .ref (aX8 2), .ref (aX8 3), .int 0, .int 0, .int 0, .int 0])), ((aX8 1), .inl (cI, 48, .inl (fun _ => 0))), ((aX8 2), .inl (cZ, 48, .inl (fun _ => 0))), ((aX8 3), .inl (cZ, 12, .inl (fun _ => 0))), ((aX1 0), .inr (1, [.ref (aX1 1), .ref (aX1 2)])), ((aX1 1), .inl (cI, 12, .inl (fun _ => 0))), ((aX1 2), .inl (cI, 12, .inl (fun _ => 0))), ((aX7 0), .inr (7, [.ref (aX7 1), .ref (aX7 2), .ref (aX7 3), .int (i7_weather vX7)])), ((aX7 1), .inl (cI, 12, .inl (i7_limits vX7))), ((aX7 2), .inl (cI, 12, .inl (i7_shown vX7))), ((aX7 3), .inl (cI, 12, .inl (i7_loweredAt vX7))), ((aX3 0), .inr (3, [.ref (aX3 1), .ref (aX3 2), .ref (aX3 3)])), ((aX3 1), .inl (cI, 48, .inl (i3_orders vX3))), ((aX3 2), .inl (cI, 48, .inl (i3_told vX3))), ((aX3 3), .inl (cI, 48, .inl (i3_shown vX3))), ((aX6 0), .inr (6, [.ref (aX6 1), .ref (aX6 2)])), ((aX6 1), .inl (cZ, 12, .inl (i6_open vX6))), ((aX6 2), .inl (cI, 12, .inl (i6_foundClearAt vX6))), ((aX2 0), .inr (2, [.ref (aX2 1), .ref (aX2 2), .ref (aX2 3), .int 0])), ((aX2 1), .inl (cI, 12, .inl (fun _ => 0))), ((aX2 2), .inl (cI, 12, .inl (fun _ => 0))), ((aX2 3), .inl (cI, 12, .inl (fun _ => 0)))] := hD9
  refine va_putF (D := D) (ci := 9) (v := .ref (aX2 0)) (ty := (.object "RedcrossGantry$Incidents")) (C := RX9) (T := TX9) (N := 10) hx hb hts iX9 tyX9 tyX9_ok nmX9 hown hK hP hD hS 0 rfl rfl 6 (by decide) hf51 (fun _ h9 => h9) rfl hin rfl (by decide +kernel) rfl rfl (Nat.le_of_ble_eq_true rfl) dX9_init_72 (fun H locs hP hD hS => ?_)
  replace hP : va_P D vwCl [(h0, .inr (9, [.int 0, .ref (aX8 0), .ref (aX1 0), .ref (aX7 0), .ref (aX3 0), .ref (aX6 0), .ref (aX2 0), .null, .null, .null])), ((aX8 0), .inr (8, [.ref (aX8 1), .ref (aX8 2), .ref (aX8 3), .int 0, .int 0, .int 0, .int 0])), ((aX8 1), .inl (cI, 48, .inl (fun _ => 0))), ((aX8 2), .inl (cZ, 48, .inl (fun _ => 0))), ((aX8 3), .inl (cZ, 12, .inl (fun _ => 0))), ((aX1 0), .inr (1, [.ref (aX1 1), .ref (aX1 2)])), ((aX1 1), .inl (cI, 12, .inl (fun _ => 0))), ((aX1 2), .inl (cI, 12, .inl (fun _ => 0))), ((aX7 0), .inr (7, [.ref (aX7 1), .ref (aX7 2), .ref (aX7 3), .int (i7_weather vX7)])), ((aX7 1), .inl (cI, 12, .inl (i7_limits vX7))), ((aX7 2), .inl (cI, 12, .inl (i7_shown vX7))), ((aX7 3), .inl (cI, 12, .inl (i7_loweredAt vX7))), ((aX3 0), .inr (3, [.ref (aX3 1), .ref (aX3 2), .ref (aX3 3)])), ((aX3 1), .inl (cI, 48, .inl (i3_orders vX3))), ((aX3 2), .inl (cI, 48, .inl (i3_told vX3))), ((aX3 3), .inl (cI, 48, .inl (i3_shown vX3))), ((aX6 0), .inr (6, [.ref (aX6 1), .ref (aX6 2)])), ((aX6 1), .inl (cZ, 12, .inl (i6_open vX6))), ((aX6 2), .inl (cI, 12, .inl (i6_foundClearAt vX6))), ((aX2 0), .inr (2, [.ref (aX2 1), .ref (aX2 2), .ref (aX2 3), .int 0])), ((aX2 1), .inl (cI, 12, .inl (fun _ => 0))), ((aX2 2), .inl (cI, 12, .inl (fun _ => 0))), ((aX2 3), .inl (cI, 12, .inl (fun _ => 0)))] H := hP
  replace hD : va_D A [(h0, .inr (9, [.int 0, .ref (aX8 0), .ref (aX1 0), .ref (aX7 0), .ref (aX3 0), .ref (aX6 0), .ref (aX2 0), .null, .null, .null])), ((aX8 0), .inr (8, [.ref (aX8 1), .ref (aX8 2), .ref (aX8 3), .int 0, .int 0, .int 0, .int 0])), ((aX8 1), .inl (cI, 48, .inl (fun _ => 0))), ((aX8 2), .inl (cZ, 48, .inl (fun _ => 0))), ((aX8 3), .inl (cZ, 12, .inl (fun _ => 0))), ((aX1 0), .inr (1, [.ref (aX1 1), .ref (aX1 2)])), ((aX1 1), .inl (cI, 12, .inl (fun _ => 0))), ((aX1 2), .inl (cI, 12, .inl (fun _ => 0))), ((aX7 0), .inr (7, [.ref (aX7 1), .ref (aX7 2), .ref (aX7 3), .int (i7_weather vX7)])), ((aX7 1), .inl (cI, 12, .inl (i7_limits vX7))), ((aX7 2), .inl (cI, 12, .inl (i7_shown vX7))), ((aX7 3), .inl (cI, 12, .inl (i7_loweredAt vX7))), ((aX3 0), .inr (3, [.ref (aX3 1), .ref (aX3 2), .ref (aX3 3)])), ((aX3 1), .inl (cI, 48, .inl (i3_orders vX3))), ((aX3 2), .inl (cI, 48, .inl (i3_told vX3))), ((aX3 3), .inl (cI, 48, .inl (i3_shown vX3))), ((aX6 0), .inr (6, [.ref (aX6 1), .ref (aX6 2)])), ((aX6 1), .inl (cZ, 12, .inl (i6_open vX6))), ((aX6 2), .inl (cI, 12, .inl (i6_foundClearAt vX6))), ((aX2 0), .inr (2, [.ref (aX2 1), .ref (aX2 2), .ref (aX2 3), .int 0])), ((aX2 1), .inl (cI, 12, .inl (fun _ => 0))), ((aX2 2), .inl (cI, 12, .inl (fun _ => 0))), ((aX2 3), .inl (cI, 12, .inl (fun _ => 0)))] := hD
  refine lv_aload_n hx hb dX9_init_75 rfl (lv_at hl 0 rfl) ?_
  refine va_new (ci := 4) (fs := [.null, .null, .null]) (C := RX4) (T := TX4) (N := 3) hx hb hts iX4 tyX4 tyX4_ok hown (hts _ mw_172) (hts _ mw_173) (hts _ mw_26) hK hP hD hS hA rfl (fun j hj => by rcases (show j = 0 ∨ j = 1 ∨ j = 2 by omega) with rfl | rfl | rfl <;> rfl) (Nat.le_of_ble_eq_true rfl) (Nat.le_of_ble_eq_true rfl) dX9_init_76 (fun q76 H hP hD hS => ?_)
  refine W.widen (k := 23) (n := 397) (Nat.le_of_ble_eq_true rfl) (Nat.le_of_ble_eq_true rfl) ?_
  replace hP : va_P D vwCl [(h0, .inr (9, [.int 0, .ref (aX8 0), .ref (aX1 0), .ref (aX7 0), .ref (aX3 0), .ref (aX6 0), .ref (aX2 0), .null, .null, .null])), ((aX8 0), .inr (8, [.ref (aX8 1), .ref (aX8 2), .ref (aX8 3), .int 0, .int 0, .int 0, .int 0])), ((aX8 1), .inl (cI, 48, .inl (fun _ => 0))), ((aX8 2), .inl (cZ, 48, .inl (fun _ => 0))), ((aX8 3), .inl (cZ, 12, .inl (fun _ => 0))), ((aX1 0), .inr (1, [.ref (aX1 1), .ref (aX1 2)])), ((aX1 1), .inl (cI, 12, .inl (fun _ => 0))), ((aX1 2), .inl (cI, 12, .inl (fun _ => 0))), ((aX7 0), .inr (7, [.ref (aX7 1), .ref (aX7 2), .ref (aX7 3), .int (i7_weather vX7)])), ((aX7 1), .inl (cI, 12, .inl (i7_limits vX7))), ((aX7 2), .inl (cI, 12, .inl (i7_shown vX7))), ((aX7 3), .inl (cI, 12, .inl (i7_loweredAt vX7))), ((aX3 0), .inr (3, [.ref (aX3 1), .ref (aX3 2), .ref (aX3 3)])), ((aX3 1), .inl (cI, 48, .inl (i3_orders vX3))), ((aX3 2), .inl (cI, 48, .inl (i3_told vX3))), ((aX3 3), .inl (cI, 48, .inl (i3_shown vX3))), ((aX6 0), .inr (6, [.ref (aX6 1), .ref (aX6 2)])), ((aX6 1), .inl (cZ, 12, .inl (i6_open vX6))), ((aX6 2), .inl (cI, 12, .inl (i6_foundClearAt vX6))), ((aX2 0), .inr (2, [.ref (aX2 1), .ref (aX2 2), .ref (aX2 3), .int 0])), ((aX2 1), .inl (cI, 12, .inl (fun _ => 0))), ((aX2 2), .inl (cI, 12, .inl (fun _ => 0))), ((aX2 3), .inl (cI, 12, .inl (fun _ => 0))), (q76, .inr (4, [.null, .null, .null]))] H := hP
  replace hD : va_D A [(h0, .inr (9, [.int 0, .ref (aX8 0), .ref (aX1 0), .ref (aX7 0), .ref (aX3 0), .ref (aX6 0), .ref (aX2 0), .null, .null, .null])), ((aX8 0), .inr (8, [.ref (aX8 1), .ref (aX8 2), .ref (aX8 3), .int 0, .int 0, .int 0, .int 0])), ((aX8 1), .inl (cI, 48, .inl (fun _ => 0))), ((aX8 2), .inl (cZ, 48, .inl (fun _ => 0))), ((aX8 3), .inl (cZ, 12, .inl (fun _ => 0))), ((aX1 0), .inr (1, [.ref (aX1 1), .ref (aX1 2)])), ((aX1 1), .inl (cI, 12, .inl (fun _ => 0))), ((aX1 2), .inl (cI, 12, .inl (fun _ => 0))), ((aX7 0), .inr (7, [.ref (aX7 1), .ref (aX7 2), .ref (aX7 3), .int (i7_weather vX7)])), ((aX7 1), .inl (cI, 12, .inl (i7_limits vX7))), ((aX7 2), .inl (cI, 12, .inl (i7_shown vX7))), ((aX7 3), .inl (cI, 12, .inl (i7_loweredAt vX7))), ((aX3 0), .inr (3, [.ref (aX3 1), .ref (aX3 2), .ref (aX3 3)])), ((aX3 1), .inl (cI, 48, .inl (i3_orders vX3))), ((aX3 2), .inl (cI, 48, .inl (i3_told vX3))), ((aX3 3), .inl (cI, 48, .inl (i3_shown vX3))), ((aX6 0), .inr (6, [.ref (aX6 1), .ref (aX6 2)])), ((aX6 1), .inl (cZ, 12, .inl (i6_open vX6))), ((aX6 2), .inl (cI, 12, .inl (i6_foundClearAt vX6))), ((aX2 0), .inr (2, [.ref (aX2 1), .ref (aX2 2), .ref (aX2 3), .int 0])), ((aX2 1), .inl (cI, 12, .inl (fun _ => 0))), ((aX2 2), .inl (cI, 12, .inl (fun _ => 0))), ((aX2 3), .inl (cI, 12, .inl (fun _ => 0))), (q76, .inr (4, [.null, .null, .null]))] := hD
  refine lv_dup hx hb dX9_init_79 rfl ?_
  refine cc_cIN (rest := [.ref q76, .ref h0]) (wr := [(h0, .inr (9, [.int 0, .ref (aX8 0), .ref (aX1 0), .ref (aX7 0), .ref (aX3 0), .ref (aX6 0), .ref (aX2 0), .null, .null, .null])), ((aX8 0), .inr (8, [.ref (aX8 1), .ref (aX8 2), .ref (aX8 3), .int 0, .int 0, .int 0, .int 0])), ((aX8 1), .inl (cI, 48, .inl (fun _ => 0))), ((aX8 2), .inl (cZ, 48, .inl (fun _ => 0))), ((aX8 3), .inl (cZ, 12, .inl (fun _ => 0))), ((aX1 0), .inr (1, [.ref (aX1 1), .ref (aX1 2)])), ((aX1 1), .inl (cI, 12, .inl (fun _ => 0))), ((aX1 2), .inl (cI, 12, .inl (fun _ => 0))), ((aX7 0), .inr (7, [.ref (aX7 1), .ref (aX7 2), .ref (aX7 3), .int (i7_weather vX7)])), ((aX7 1), .inl (cI, 12, .inl (i7_limits vX7))), ((aX7 2), .inl (cI, 12, .inl (i7_shown vX7))), ((aX7 3), .inl (cI, 12, .inl (i7_loweredAt vX7))), ((aX3 0), .inr (3, [.ref (aX3 1), .ref (aX3 2), .ref (aX3 3)])), ((aX3 1), .inl (cI, 48, .inl (i3_orders vX3))), ((aX3 2), .inl (cI, 48, .inl (i3_told vX3))), ((aX3 3), .inl (cI, 48, .inl (i3_shown vX3))), ((aX6 0), .inr (6, [.ref (aX6 1), .ref (aX6 2)])), ((aX6 1), .inl (cZ, 12, .inl (i6_open vX6))), ((aX6 2), .inl (cI, 12, .inl (i6_foundClearAt vX6))), ((aX2 0), .inr (2, [.ref (aX2 1), .ref (aX2 2), .ref (aX2 3), .int 0])), ((aX2 1), .inl (cI, 12, .inl (fun _ => 0))), ((aX2 2), .inl (cI, 12, .inl (fun _ => 0))), ((aX2 3), .inl (cI, 12, .inl (fun _ => 0)))]) ⟨hx, hb, hml, hown, hts⟩ (kc_X4 l D cI cZ q76) ⟨va_cnB 0 hts (gwM mw_176) rfl rfl rfl (hZ.1 ("RedcrossGantry", 57, yX4_init) (by decide +kernel)) (hts _ mw_26) (by decide +kernel) ⟨Nat.le_of_ble_eq_true rfl, Nat.le_of_ble_eq_true rfl⟩, rfl, hts _ mw_175⟩ hK hP hD hS hA hZ [23] [0, 1, 2, 3, 4, 5, 6, 7, 8, 9, 10, 11, 12, 13, 14, 15, 16, 17, 18, 19, 20, 21, 22] rfl rfl (by decide) rfl (by decide) (by decide) hl.1 rfl (Nat.le_of_ble_eq_true rfl) dX9_init_80 ⟨Nat.le_of_ble_eq_true rfl, Nat.le_of_ble_eq_true rfl⟩ (fun aX4 H locs eaX4 hP9 hD9 hS => ?_)
  subst eaX4
  refine W.widen (k := 26) (n := 406) (Nat.le_of_ble_eq_true rfl) (Nat.le_of_ble_eq_true rfl) ?_
  replace hP : va_P D vwCl [(h0, .inr (9, [.int 0, .ref (aX8 0), .ref (aX1 0), .ref (aX7 0), .ref (aX3 0), .ref (aX6 0), .ref (aX2 0), .null, .null, .null])), ((aX8 0), .inr (8, [.ref (aX8 1), .ref (aX8 2), .ref (aX8 3), .int 0, .int 0, .int 0, .int 0])), ((aX8 1), .inl (cI, 48, .inl (fun _ => 0))), ((aX8 2), .inl (cZ, 48, .inl (fun _ => 0))), ((aX8 3), .inl (cZ, 12, .inl (fun _ => 0))), ((aX1 0), .inr (1, [.ref (aX1 1), .ref (aX1 2)])), ((aX1 1), .inl (cI, 12, .inl (fun _ => 0))), ((aX1 2), .inl (cI, 12, .inl (fun _ => 0))), ((aX7 0), .inr (7, [.ref (aX7 1), .ref (aX7 2), .ref (aX7 3), .int (i7_weather vX7)])), ((aX7 1), .inl (cI, 12, .inl (i7_limits vX7))), ((aX7 2), .inl (cI, 12, .inl (i7_shown vX7))), ((aX7 3), .inl (cI, 12, .inl (i7_loweredAt vX7))), ((aX3 0), .inr (3, [.ref (aX3 1), .ref (aX3 2), .ref (aX3 3)])), ((aX3 1), .inl (cI, 48, .inl (i3_orders vX3))), ((aX3 2), .inl (cI, 48, .inl (i3_told vX3))), ((aX3 3), .inl (cI, 48, .inl (i3_shown vX3))), ((aX6 0), .inr (6, [.ref (aX6 1), .ref (aX6 2)])), ((aX6 1), .inl (cZ, 12, .inl (i6_open vX6))), ((aX6 2), .inl (cI, 12, .inl (i6_foundClearAt vX6))), ((aX2 0), .inr (2, [.ref (aX2 1), .ref (aX2 2), .ref (aX2 3), .int 0])), ((aX2 1), .inl (cI, 12, .inl (fun _ => 0))), ((aX2 2), .inl (cI, 12, .inl (fun _ => 0))), ((aX2 3), .inl (cI, 12, .inl (fun _ => 0))), ((aX4 0), .inr (4, [.ref (aX4 1), .ref (aX4 2), .ref (aX4 3)])), ((aX4 1), .inl (cI, 3, .inl (fun _ => 0))), ((aX4 2), .inl (cI, 3, .inl (upd (upd (upd (fun _ => 0) (0 : Int32).toNatClampNeg (-1)) (1 : Int32).toNatClampNeg (-1)) (2 : Int32).toNatClampNeg (-1)))), ((aX4 3), .inl (cI, 3, .inl (fun _ => 0)))] H := hP9
  replace hD : va_D A [(h0, .inr (9, [.int 0, .ref (aX8 0), .ref (aX1 0), .ref (aX7 0), .ref (aX3 0), .ref (aX6 0), .ref (aX2 0), .null, .null, .null])), ((aX8 0), .inr (8, [.ref (aX8 1), .ref (aX8 2), .ref (aX8 3), .int 0, .int 0, .int 0, .int 0])), ((aX8 1), .inl (cI, 48, .inl (fun _ => 0))), ((aX8 2), .inl (cZ, 48, .inl (fun _ => 0))), ((aX8 3), .inl (cZ, 12, .inl (fun _ => 0))), ((aX1 0), .inr (1, [.ref (aX1 1), .ref (aX1 2)])), ((aX1 1), .inl (cI, 12, .inl (fun _ => 0))), ((aX1 2), .inl (cI, 12, .inl (fun _ => 0))), ((aX7 0), .inr (7, [.ref (aX7 1), .ref (aX7 2), .ref (aX7 3), .int (i7_weather vX7)])), ((aX7 1), .inl (cI, 12, .inl (i7_limits vX7))), ((aX7 2), .inl (cI, 12, .inl (i7_shown vX7))), ((aX7 3), .inl (cI, 12, .inl (i7_loweredAt vX7))), ((aX3 0), .inr (3, [.ref (aX3 1), .ref (aX3 2), .ref (aX3 3)])), ((aX3 1), .inl (cI, 48, .inl (i3_orders vX3))), ((aX3 2), .inl (cI, 48, .inl (i3_told vX3))), ((aX3 3), .inl (cI, 48, .inl (i3_shown vX3))), ((aX6 0), .inr (6, [.ref (aX6 1), .ref (aX6 2)])), ((aX6 1), .inl (cZ, 12, .inl (i6_open vX6))), ((aX6 2), .inl (cI, 12, .inl (i6_foundClearAt vX6))), ((aX2 0), .inr (2, [.ref (aX2 1), .ref (aX2 2), .ref (aX2 3), .int 0])), ((aX2 1), .inl (cI, 12, .inl (fun _ => 0))), ((aX2 2), .inl (cI, 12, .inl (fun _ => 0))), ((aX2 3), .inl (cI, 12, .inl (fun _ => 0))), ((aX4 0), .inr (4, [.ref (aX4 1), .ref (aX4 2), .ref (aX4 3)])), ((aX4 1), .inl (cI, 3, .inl (fun _ => 0))), ((aX4 2), .inl (cI, 3, .inl (upd (upd (upd (fun _ => 0) (0 : Int32).toNatClampNeg (-1)) (1 : Int32).toNatClampNeg (-1)) (2 : Int32).toNatClampNeg (-1)))), ((aX4 3), .inl (cI, 3, .inl (fun _ => 0)))] := hD9
  refine va_putF (D := D) (ci := 9) (v := .ref (aX4 0)) (ty := (.object "RedcrossGantry$Patrols")) (C := RX9) (T := TX9) (N := 10) hx hb hts iX9 tyX9 tyX9_ok nmX9 hown hK hP hD hS 0 rfl rfl 7 (by decide) hf58 (fun _ h9 => h9) rfl hin rfl (by decide +kernel) rfl rfl (Nat.le_of_ble_eq_true rfl) dX9_init_83 (fun H locs hP hD hS => ?_)
  replace hP : va_P D vwCl [(h0, .inr (9, [.int 0, .ref (aX8 0), .ref (aX1 0), .ref (aX7 0), .ref (aX3 0), .ref (aX6 0), .ref (aX2 0), .ref (aX4 0), .null, .null])), ((aX8 0), .inr (8, [.ref (aX8 1), .ref (aX8 2), .ref (aX8 3), .int 0, .int 0, .int 0, .int 0])), ((aX8 1), .inl (cI, 48, .inl (fun _ => 0))), ((aX8 2), .inl (cZ, 48, .inl (fun _ => 0))), ((aX8 3), .inl (cZ, 12, .inl (fun _ => 0))), ((aX1 0), .inr (1, [.ref (aX1 1), .ref (aX1 2)])), ((aX1 1), .inl (cI, 12, .inl (fun _ => 0))), ((aX1 2), .inl (cI, 12, .inl (fun _ => 0))), ((aX7 0), .inr (7, [.ref (aX7 1), .ref (aX7 2), .ref (aX7 3), .int (i7_weather vX7)])), ((aX7 1), .inl (cI, 12, .inl (i7_limits vX7))), ((aX7 2), .inl (cI, 12, .inl (i7_shown vX7))), ((aX7 3), .inl (cI, 12, .inl (i7_loweredAt vX7))), ((aX3 0), .inr (3, [.ref (aX3 1), .ref (aX3 2), .ref (aX3 3)])), ((aX3 1), .inl (cI, 48, .inl (i3_orders vX3))), ((aX3 2), .inl (cI, 48, .inl (i3_told vX3))), ((aX3 3), .inl (cI, 48, .inl (i3_shown vX3))), ((aX6 0), .inr (6, [.ref (aX6 1), .ref (aX6 2)])), ((aX6 1), .inl (cZ, 12, .inl (i6_open vX6))), ((aX6 2), .inl (cI, 12, .inl (i6_foundClearAt vX6))), ((aX2 0), .inr (2, [.ref (aX2 1), .ref (aX2 2), .ref (aX2 3), .int 0])), ((aX2 1), .inl (cI, 12, .inl (fun _ => 0))), ((aX2 2), .inl (cI, 12, .inl (fun _ => 0))), ((aX2 3), .inl (cI, 12, .inl (fun _ => 0))), ((aX4 0), .inr (4, [.ref (aX4 1), .ref (aX4 2), .ref (aX4 3)])), ((aX4 1), .inl (cI, 3, .inl (fun _ => 0))), ((aX4 2), .inl (cI, 3, .inl (upd (upd (upd (fun _ => 0) (0 : Int32).toNatClampNeg (-1)) (1 : Int32).toNatClampNeg (-1)) (2 : Int32).toNatClampNeg (-1)))), ((aX4 3), .inl (cI, 3, .inl (fun _ => 0)))] H := hP
  replace hD : va_D A [(h0, .inr (9, [.int 0, .ref (aX8 0), .ref (aX1 0), .ref (aX7 0), .ref (aX3 0), .ref (aX6 0), .ref (aX2 0), .ref (aX4 0), .null, .null])), ((aX8 0), .inr (8, [.ref (aX8 1), .ref (aX8 2), .ref (aX8 3), .int 0, .int 0, .int 0, .int 0])), ((aX8 1), .inl (cI, 48, .inl (fun _ => 0))), ((aX8 2), .inl (cZ, 48, .inl (fun _ => 0))), ((aX8 3), .inl (cZ, 12, .inl (fun _ => 0))), ((aX1 0), .inr (1, [.ref (aX1 1), .ref (aX1 2)])), ((aX1 1), .inl (cI, 12, .inl (fun _ => 0))), ((aX1 2), .inl (cI, 12, .inl (fun _ => 0))), ((aX7 0), .inr (7, [.ref (aX7 1), .ref (aX7 2), .ref (aX7 3), .int (i7_weather vX7)])), ((aX7 1), .inl (cI, 12, .inl (i7_limits vX7))), ((aX7 2), .inl (cI, 12, .inl (i7_shown vX7))), ((aX7 3), .inl (cI, 12, .inl (i7_loweredAt vX7))), ((aX3 0), .inr (3, [.ref (aX3 1), .ref (aX3 2), .ref (aX3 3)])), ((aX3 1), .inl (cI, 48, .inl (i3_orders vX3))), ((aX3 2), .inl (cI, 48, .inl (i3_told vX3))), ((aX3 3), .inl (cI, 48, .inl (i3_shown vX3))), ((aX6 0), .inr (6, [.ref (aX6 1), .ref (aX6 2)])), ((aX6 1), .inl (cZ, 12, .inl (i6_open vX6))), ((aX6 2), .inl (cI, 12, .inl (i6_foundClearAt vX6))), ((aX2 0), .inr (2, [.ref (aX2 1), .ref (aX2 2), .ref (aX2 3), .int 0])), ((aX2 1), .inl (cI, 12, .inl (fun _ => 0))), ((aX2 2), .inl (cI, 12, .inl (fun _ => 0))), ((aX2 3), .inl (cI, 12, .inl (fun _ => 0))), ((aX4 0), .inr (4, [.ref (aX4 1), .ref (aX4 2), .ref (aX4 3)])), ((aX4 1), .inl (cI, 3, .inl (fun _ => 0))), ((aX4 2), .inl (cI, 3, .inl (upd (upd (upd (fun _ => 0) (0 : Int32).toNatClampNeg (-1)) (1 : Int32).toNatClampNeg (-1)) (2 : Int32).toNatClampNeg (-1)))), ((aX4 3), .inl (cI, 3, .inl (fun _ => 0)))] := hD
  refine lv_aload_n hx hb dX9_init_86 rfl (lv_at hl 0 rfl) ?_
  refine va_new (ci := 0) (fs := [.null, .null, .null, .null, .null, .int 0]) (C := RX0) (T := TX0) (N := 6) hx hb hts iX0 tyX0 tyX0_ok hown (hts _ mw_191) (hts _ mw_192) (hts _ mw_27) hK hP hD hS hA rfl (fun j hj => by rcases (show j = 0 ∨ j = 1 ∨ j = 2 ∨ j = 3 ∨ j = 4 ∨ j = 5 by omega) with rfl | rfl | rfl | rfl | rfl | rfl <;> rfl) (Nat.le_of_ble_eq_true rfl) (Nat.le_of_ble_eq_true rfl) dX9_init_87 (fun q87 H hP hD hS => ?_)
  refine W.widen (k := 27) (n := 412) (Nat.le_of_ble_eq_true rfl) (Nat.le_of_ble_eq_true rfl) ?_
  replace hP : va_P D vwCl [(h0, .inr (9, [.int 0, .ref (aX8 0), .ref (aX1 0), .ref (aX7 0), .ref (aX3 0), .ref (aX6 0), .ref (aX2 0), .ref (aX4 0), .null, .null])), ((aX8 0), .inr (8, [.ref (aX8 1), .ref (aX8 2), .ref (aX8 3), .int 0, .int 0, .int 0, .int 0])), ((aX8 1), .inl (cI, 48, .inl (fun _ => 0))), ((aX8 2), .inl (cZ, 48, .inl (fun _ => 0))), ((aX8 3), .inl (cZ, 12, .inl (fun _ => 0))), ((aX1 0), .inr (1, [.ref (aX1 1), .ref (aX1 2)])), ((aX1 1), .inl (cI, 12, .inl (fun _ => 0))), ((aX1 2), .inl (cI, 12, .inl (fun _ => 0))), ((aX7 0), .inr (7, [.ref (aX7 1), .ref (aX7 2), .ref (aX7 3), .int (i7_weather vX7)])), ((aX7 1), .inl (cI, 12, .inl (i7_limits vX7))), ((aX7 2), .inl (cI, 12, .inl (i7_shown vX7))), ((aX7 3), .inl (cI, 12, .inl (i7_loweredAt vX7))), ((aX3 0), .inr (3, [.ref (aX3 1), .ref (aX3 2), .ref (aX3 3)])), ((aX3 1), .inl (cI, 48, .inl (i3_orders vX3))), ((aX3 2), .inl (cI, 48, .inl (i3_told vX3))), ((aX3 3), .inl (cI, 48, .inl (i3_shown vX3))), ((aX6 0), .inr (6, [.ref (aX6 1), .ref (aX6 2)])), ((aX6 1), .inl (cZ, 12, .inl (i6_open vX6))), ((aX6 2), .inl (cI, 12, .inl (i6_foundClearAt vX6))), ((aX2 0), .inr (2, [.ref (aX2 1), .ref (aX2 2), .ref (aX2 3), .int 0])), ((aX2 1), .inl (cI, 12, .inl (fun _ => 0))), ((aX2 2), .inl (cI, 12, .inl (fun _ => 0))), ((aX2 3), .inl (cI, 12, .inl (fun _ => 0))), ((aX4 0), .inr (4, [.ref (aX4 1), .ref (aX4 2), .ref (aX4 3)])), ((aX4 1), .inl (cI, 3, .inl (fun _ => 0))), ((aX4 2), .inl (cI, 3, .inl (upd (upd (upd (fun _ => 0) (0 : Int32).toNatClampNeg (-1)) (1 : Int32).toNatClampNeg (-1)) (2 : Int32).toNatClampNeg (-1)))), ((aX4 3), .inl (cI, 3, .inl (fun _ => 0))), (q87, .inr (0, [.null, .null, .null, .null, .null, .int 0]))] H := hP
  replace hD : va_D A [(h0, .inr (9, [.int 0, .ref (aX8 0), .ref (aX1 0), .ref (aX7 0), .ref (aX3 0), .ref (aX6 0), .ref (aX2 0), .ref (aX4 0), .null, .null])), ((aX8 0), .inr (8, [.ref (aX8 1), .ref (aX8 2), .ref (aX8 3), .int 0, .int 0, .int 0, .int 0])), ((aX8 1), .inl (cI, 48, .inl (fun _ => 0))), ((aX8 2), .inl (cZ, 48, .inl (fun _ => 0))), ((aX8 3), .inl (cZ, 12, .inl (fun _ => 0))), ((aX1 0), .inr (1, [.ref (aX1 1), .ref (aX1 2)])), ((aX1 1), .inl (cI, 12, .inl (fun _ => 0))), ((aX1 2), .inl (cI, 12, .inl (fun _ => 0))), ((aX7 0), .inr (7, [.ref (aX7 1), .ref (aX7 2), .ref (aX7 3), .int (i7_weather vX7)])), ((aX7 1), .inl (cI, 12, .inl (i7_limits vX7))), ((aX7 2), .inl (cI, 12, .inl (i7_shown vX7))), ((aX7 3), .inl (cI, 12, .inl (i7_loweredAt vX7))), ((aX3 0), .inr (3, [.ref (aX3 1), .ref (aX3 2), .ref (aX3 3)])), ((aX3 1), .inl (cI, 48, .inl (i3_orders vX3))), ((aX3 2), .inl (cI, 48, .inl (i3_told vX3))), ((aX3 3), .inl (cI, 48, .inl (i3_shown vX3))), ((aX6 0), .inr (6, [.ref (aX6 1), .ref (aX6 2)])), ((aX6 1), .inl (cZ, 12, .inl (i6_open vX6))), ((aX6 2), .inl (cI, 12, .inl (i6_foundClearAt vX6))), ((aX2 0), .inr (2, [.ref (aX2 1), .ref (aX2 2), .ref (aX2 3), .int 0])), ((aX2 1), .inl (cI, 12, .inl (fun _ => 0))), ((aX2 2), .inl (cI, 12, .inl (fun _ => 0))), ((aX2 3), .inl (cI, 12, .inl (fun _ => 0))), ((aX4 0), .inr (4, [.ref (aX4 1), .ref (aX4 2), .ref (aX4 3)])), ((aX4 1), .inl (cI, 3, .inl (fun _ => 0))), ((aX4 2), .inl (cI, 3, .inl (upd (upd (upd (fun _ => 0) (0 : Int32).toNatClampNeg (-1)) (1 : Int32).toNatClampNeg (-1)) (2 : Int32).toNatClampNeg (-1)))), ((aX4 3), .inl (cI, 3, .inl (fun _ => 0))), (q87, .inr (0, [.null, .null, .null, .null, .null, .int 0]))] := hD
  refine lv_dup hx hb dX9_init_90 rfl ?_
  refine cc_cIN (rest := [.ref q87, .ref h0]) (wr := [(h0, .inr (9, [.int 0, .ref (aX8 0), .ref (aX1 0), .ref (aX7 0), .ref (aX3 0), .ref (aX6 0), .ref (aX2 0), .ref (aX4 0), .null, .null])), ((aX8 0), .inr (8, [.ref (aX8 1), .ref (aX8 2), .ref (aX8 3), .int 0, .int 0, .int 0, .int 0])), ((aX8 1), .inl (cI, 48, .inl (fun _ => 0))), ((aX8 2), .inl (cZ, 48, .inl (fun _ => 0))), ((aX8 3), .inl (cZ, 12, .inl (fun _ => 0))), ((aX1 0), .inr (1, [.ref (aX1 1), .ref (aX1 2)])), ((aX1 1), .inl (cI, 12, .inl (fun _ => 0))), ((aX1 2), .inl (cI, 12, .inl (fun _ => 0))), ((aX7 0), .inr (7, [.ref (aX7 1), .ref (aX7 2), .ref (aX7 3), .int (i7_weather vX7)])), ((aX7 1), .inl (cI, 12, .inl (i7_limits vX7))), ((aX7 2), .inl (cI, 12, .inl (i7_shown vX7))), ((aX7 3), .inl (cI, 12, .inl (i7_loweredAt vX7))), ((aX3 0), .inr (3, [.ref (aX3 1), .ref (aX3 2), .ref (aX3 3)])), ((aX3 1), .inl (cI, 48, .inl (i3_orders vX3))), ((aX3 2), .inl (cI, 48, .inl (i3_told vX3))), ((aX3 3), .inl (cI, 48, .inl (i3_shown vX3))), ((aX6 0), .inr (6, [.ref (aX6 1), .ref (aX6 2)])), ((aX6 1), .inl (cZ, 12, .inl (i6_open vX6))), ((aX6 2), .inl (cI, 12, .inl (i6_foundClearAt vX6))), ((aX2 0), .inr (2, [.ref (aX2 1), .ref (aX2 2), .ref (aX2 3), .int 0])), ((aX2 1), .inl (cI, 12, .inl (fun _ => 0))), ((aX2 2), .inl (cI, 12, .inl (fun _ => 0))), ((aX2 3), .inl (cI, 12, .inl (fun _ => 0))), ((aX4 0), .inr (4, [.ref (aX4 1), .ref (aX4 2), .ref (aX4 3)])), ((aX4 1), .inl (cI, 3, .inl (fun _ => 0))), ((aX4 2), .inl (cI, 3, .inl (upd (upd (upd (fun _ => 0) (0 : Int32).toNatClampNeg (-1)) (1 : Int32).toNatClampNeg (-1)) (2 : Int32).toNatClampNeg (-1)))), ((aX4 3), .inl (cI, 3, .inl (fun _ => 0)))]) ⟨hx, hb, hml, hown, hts⟩ (kc_X0 l D cI cZ q87) ⟨va_cnB 0 hts (gwM mw_195) rfl rfl rfl (hZ.1 ("RedcrossGantry", 64, yX0_init) (by decide +kernel)) (hts _ mw_27) (by decide +kernel) ⟨Nat.le_of_ble_eq_true rfl, Nat.le_of_ble_eq_true rfl⟩, rfl, hts _ mw_194⟩ hK hP hD hS hA hZ [27] [0, 1, 2, 3, 4, 5, 6, 7, 8, 9, 10, 11, 12, 13, 14, 15, 16, 17, 18, 19, 20, 21, 22, 23, 24, 25, 26] rfl rfl (by decide) rfl (by decide) (by decide) hl.1 rfl (Nat.le_of_ble_eq_true rfl) dX9_init_91 ⟨Nat.le_of_ble_eq_true rfl, Nat.le_of_ble_eq_true rfl⟩ (fun aX0 H locs eaX0 hP9 hD9 hS => ?_)
  subst eaX0
  refine W.widen (k := 32) (n := 452) (Nat.le_of_ble_eq_true rfl) (Nat.le_of_ble_eq_true rfl) ?_
  replace hP : va_P D vwCl [(h0, .inr (9, [.int 0, .ref (aX8 0), .ref (aX1 0), .ref (aX7 0), .ref (aX3 0), .ref (aX6 0), .ref (aX2 0), .ref (aX4 0), .null, .null])), ((aX8 0), .inr (8, [.ref (aX8 1), .ref (aX8 2), .ref (aX8 3), .int 0, .int 0, .int 0, .int 0])), ((aX8 1), .inl (cI, 48, .inl (fun _ => 0))), ((aX8 2), .inl (cZ, 48, .inl (fun _ => 0))), ((aX8 3), .inl (cZ, 12, .inl (fun _ => 0))), ((aX1 0), .inr (1, [.ref (aX1 1), .ref (aX1 2)])), ((aX1 1), .inl (cI, 12, .inl (fun _ => 0))), ((aX1 2), .inl (cI, 12, .inl (fun _ => 0))), ((aX7 0), .inr (7, [.ref (aX7 1), .ref (aX7 2), .ref (aX7 3), .int (i7_weather vX7)])), ((aX7 1), .inl (cI, 12, .inl (i7_limits vX7))), ((aX7 2), .inl (cI, 12, .inl (i7_shown vX7))), ((aX7 3), .inl (cI, 12, .inl (i7_loweredAt vX7))), ((aX3 0), .inr (3, [.ref (aX3 1), .ref (aX3 2), .ref (aX3 3)])), ((aX3 1), .inl (cI, 48, .inl (i3_orders vX3))), ((aX3 2), .inl (cI, 48, .inl (i3_told vX3))), ((aX3 3), .inl (cI, 48, .inl (i3_shown vX3))), ((aX6 0), .inr (6, [.ref (aX6 1), .ref (aX6 2)])), ((aX6 1), .inl (cZ, 12, .inl (i6_open vX6))), ((aX6 2), .inl (cI, 12, .inl (i6_foundClearAt vX6))), ((aX2 0), .inr (2, [.ref (aX2 1), .ref (aX2 2), .ref (aX2 3), .int 0])), ((aX2 1), .inl (cI, 12, .inl (fun _ => 0))), ((aX2 2), .inl (cI, 12, .inl (fun _ => 0))), ((aX2 3), .inl (cI, 12, .inl (fun _ => 0))), ((aX4 0), .inr (4, [.ref (aX4 1), .ref (aX4 2), .ref (aX4 3)])), ((aX4 1), .inl (cI, 3, .inl (fun _ => 0))), ((aX4 2), .inl (cI, 3, .inl (upd (upd (upd (fun _ => 0) (0 : Int32).toNatClampNeg (-1)) (1 : Int32).toNatClampNeg (-1)) (2 : Int32).toNatClampNeg (-1)))), ((aX4 3), .inl (cI, 3, .inl (fun _ => 0))), ((aX0 0), .inr (0, [.ref (aX0 1), .ref (aX0 2), .ref (aX0 3), .ref (aX0 4), .ref (aX0 5), .int 0])), ((aX0 1), .inl (cI, 8, .inl (fun _ => 0))), ((aX0 2), .inl (cI, 8, .inl (fun _ => 0))), ((aX0 3), .inl (cI, 8, .inl (fun _ => 0))), ((aX0 4), .inl (cI, 8, .inl (fun _ => 0))), ((aX0 5), .inl (cI, 8, .inl (fun _ => 0)))] H := hP9
  replace hD : va_D A [(h0, .inr (9, [.int 0, .ref (aX8 0), .ref (aX1 0), .ref (aX7 0), .ref (aX3 0), .ref (aX6 0), .ref (aX2 0), .ref (aX4 0), .null, .null])), ((aX8 0), .inr (8, [.ref (aX8 1), .ref (aX8 2), .ref (aX8 3), .int 0, .int 0, .int 0, .int 0])), ((aX8 1), .inl (cI, 48, .inl (fun _ => 0))), ((aX8 2), .inl (cZ, 48, .inl (fun _ => 0))), ((aX8 3), .inl (cZ, 12, .inl (fun _ => 0))), ((aX1 0), .inr (1, [.ref (aX1 1), .ref (aX1 2)])), ((aX1 1), .inl (cI, 12, .inl (fun _ => 0))), ((aX1 2), .inl (cI, 12, .inl (fun _ => 0))), ((aX7 0), .inr (7, [.ref (aX7 1), .ref (aX7 2), .ref (aX7 3), .int (i7_weather vX7)])), ((aX7 1), .inl (cI, 12, .inl (i7_limits vX7))), ((aX7 2), .inl (cI, 12, .inl (i7_shown vX7))), ((aX7 3), .inl (cI, 12, .inl (i7_loweredAt vX7))), ((aX3 0), .inr (3, [.ref (aX3 1), .ref (aX3 2), .ref (aX3 3)])), ((aX3 1), .inl (cI, 48, .inl (i3_orders vX3))), ((aX3 2), .inl (cI, 48, .inl (i3_told vX3))), ((aX3 3), .inl (cI, 48, .inl (i3_shown vX3))), ((aX6 0), .inr (6, [.ref (aX6 1), .ref (aX6 2)])), ((aX6 1), .inl (cZ, 12, .inl (i6_open vX6))), ((aX6 2), .inl (cI, 12, .inl (i6_foundClearAt vX6))), ((aX2 0), .inr (2, [.ref (aX2 1), .ref (aX2 2), .ref (aX2 3), .int 0])), ((aX2 1), .inl (cI, 12, .inl (fun _ => 0))), ((aX2 2), .inl (cI, 12, .inl (fun _ => 0))), ((aX2 3), .inl (cI, 12, .inl (fun _ => 0))), ((aX4 0), .inr (4, [.ref (aX4 1), .ref (aX4 2), .ref (aX4 3)])), ((aX4 1), .inl (cI, 3, .inl (fun _ => 0))), ((aX4 2), .inl (cI, 3, .inl (upd (upd (upd (fun _ => 0) (0 : Int32).toNatClampNeg (-1)) (1 : Int32).toNatClampNeg (-1)) (2 : Int32).toNatClampNeg (-1)))), ((aX4 3), .inl (cI, 3, .inl (fun _ => 0))), ((aX0 0), .inr (0, [.ref (aX0 1), .ref (aX0 2), .ref (aX0 3), .ref (aX0 4), .ref (aX0 5), .int 0])), ((aX0 1), .inl (cI, 8, .inl (fun _ => 0))), ((aX0 2), .inl (cI, 8, .inl (fun _ => 0))), ((aX0 3), .inl (cI, 8, .inl (fun _ => 0))), ((aX0 4), .inl (cI, 8, .inl (fun _ => 0))), ((aX0 5), .inl (cI, 8, .inl (fun _ => 0)))] := hD9
  refine va_putF (D := D) (ci := 9) (v := .ref (aX0 0)) (ty := (.object "RedcrossGantry$Bookings")) (C := RX9) (T := TX9) (N := 10) hx hb hts iX9 tyX9 tyX9_ok nmX9 hown hK hP hD hS 0 rfl rfl 8 (by decide) hf65 (fun _ h9 => h9) rfl hin rfl (by decide +kernel) rfl rfl (Nat.le_of_ble_eq_true rfl) dX9_init_94 (fun H locs hP hD hS => ?_)
  replace hP : va_P D vwCl [(h0, .inr (9, [.int 0, .ref (aX8 0), .ref (aX1 0), .ref (aX7 0), .ref (aX3 0), .ref (aX6 0), .ref (aX2 0), .ref (aX4 0), .ref (aX0 0), .null])), ((aX8 0), .inr (8, [.ref (aX8 1), .ref (aX8 2), .ref (aX8 3), .int 0, .int 0, .int 0, .int 0])), ((aX8 1), .inl (cI, 48, .inl (fun _ => 0))), ((aX8 2), .inl (cZ, 48, .inl (fun _ => 0))), ((aX8 3), .inl (cZ, 12, .inl (fun _ => 0))), ((aX1 0), .inr (1, [.ref (aX1 1), .ref (aX1 2)])), ((aX1 1), .inl (cI, 12, .inl (fun _ => 0))), ((aX1 2), .inl (cI, 12, .inl (fun _ => 0))), ((aX7 0), .inr (7, [.ref (aX7 1), .ref (aX7 2), .ref (aX7 3), .int (i7_weather vX7)])), ((aX7 1), .inl (cI, 12, .inl (i7_limits vX7))), ((aX7 2), .inl (cI, 12, .inl (i7_shown vX7))), ((aX7 3), .inl (cI, 12, .inl (i7_loweredAt vX7))), ((aX3 0), .inr (3, [.ref (aX3 1), .ref (aX3 2), .ref (aX3 3)])), ((aX3 1), .inl (cI, 48, .inl (i3_orders vX3))), ((aX3 2), .inl (cI, 48, .inl (i3_told vX3))), ((aX3 3), .inl (cI, 48, .inl (i3_shown vX3))), ((aX6 0), .inr (6, [.ref (aX6 1), .ref (aX6 2)])), ((aX6 1), .inl (cZ, 12, .inl (i6_open vX6))), ((aX6 2), .inl (cI, 12, .inl (i6_foundClearAt vX6))), ((aX2 0), .inr (2, [.ref (aX2 1), .ref (aX2 2), .ref (aX2 3), .int 0])), ((aX2 1), .inl (cI, 12, .inl (fun _ => 0))), ((aX2 2), .inl (cI, 12, .inl (fun _ => 0))), ((aX2 3), .inl (cI, 12, .inl (fun _ => 0))), ((aX4 0), .inr (4, [.ref (aX4 1), .ref (aX4 2), .ref (aX4 3)])), ((aX4 1), .inl (cI, 3, .inl (fun _ => 0))), ((aX4 2), .inl (cI, 3, .inl (upd (upd (upd (fun _ => 0) (0 : Int32).toNatClampNeg (-1)) (1 : Int32).toNatClampNeg (-1)) (2 : Int32).toNatClampNeg (-1)))), ((aX4 3), .inl (cI, 3, .inl (fun _ => 0))), ((aX0 0), .inr (0, [.ref (aX0 1), .ref (aX0 2), .ref (aX0 3), .ref (aX0 4), .ref (aX0 5), .int 0])), ((aX0 1), .inl (cI, 8, .inl (fun _ => 0))), ((aX0 2), .inl (cI, 8, .inl (fun _ => 0))), ((aX0 3), .inl (cI, 8, .inl (fun _ => 0))), ((aX0 4), .inl (cI, 8, .inl (fun _ => 0))), ((aX0 5), .inl (cI, 8, .inl (fun _ => 0)))] H := hP
  replace hD : va_D A [(h0, .inr (9, [.int 0, .ref (aX8 0), .ref (aX1 0), .ref (aX7 0), .ref (aX3 0), .ref (aX6 0), .ref (aX2 0), .ref (aX4 0), .ref (aX0 0), .null])), ((aX8 0), .inr (8, [.ref (aX8 1), .ref (aX8 2), .ref (aX8 3), .int 0, .int 0, .int 0, .int 0])), ((aX8 1), .inl (cI, 48, .inl (fun _ => 0))), ((aX8 2), .inl (cZ, 48, .inl (fun _ => 0))), ((aX8 3), .inl (cZ, 12, .inl (fun _ => 0))), ((aX1 0), .inr (1, [.ref (aX1 1), .ref (aX1 2)])), ((aX1 1), .inl (cI, 12, .inl (fun _ => 0))), ((aX1 2), .inl (cI, 12, .inl (fun _ => 0))), ((aX7 0), .inr (7, [.ref (aX7 1), .ref (aX7 2), .ref (aX7 3), .int (i7_weather vX7)])), ((aX7 1), .inl (cI, 12, .inl (i7_limits vX7))), ((aX7 2), .inl (cI, 12, .inl (i7_shown vX7))), ((aX7 3), .inl (cI, 12, .inl (i7_loweredAt vX7))), ((aX3 0), .inr (3, [.ref (aX3 1), .ref (aX3 2), .ref (aX3 3)])), ((aX3 1), .inl (cI, 48, .inl (i3_orders vX3))), ((aX3 2), .inl (cI, 48, .inl (i3_told vX3))), ((aX3 3), .inl (cI, 48, .inl (i3_shown vX3))), ((aX6 0), .inr (6, [.ref (aX6 1), .ref (aX6 2)])), ((aX6 1), .inl (cZ, 12, .inl (i6_open vX6))), ((aX6 2), .inl (cI, 12, .inl (i6_foundClearAt vX6))), ((aX2 0), .inr (2, [.ref (aX2 1), .ref (aX2 2), .ref (aX2 3), .int 0])), ((aX2 1), .inl (cI, 12, .inl (fun _ => 0))), ((aX2 2), .inl (cI, 12, .inl (fun _ => 0))), ((aX2 3), .inl (cI, 12, .inl (fun _ => 0))), ((aX4 0), .inr (4, [.ref (aX4 1), .ref (aX4 2), .ref (aX4 3)])), ((aX4 1), .inl (cI, 3, .inl (fun _ => 0))), ((aX4 2), .inl (cI, 3, .inl (upd (upd (upd (fun _ => 0) (0 : Int32).toNatClampNeg (-1)) (1 : Int32).toNatClampNeg (-1)) (2 : Int32).toNatClampNeg (-1)))), ((aX4 3), .inl (cI, 3, .inl (fun _ => 0))), ((aX0 0), .inr (0, [.ref (aX0 1), .ref (aX0 2), .ref (aX0 3), .ref (aX0 4), .ref (aX0 5), .int 0])), ((aX0 1), .inl (cI, 8, .inl (fun _ => 0))), ((aX0 2), .inl (cI, 8, .inl (fun _ => 0))), ((aX0 3), .inl (cI, 8, .inl (fun _ => 0))), ((aX0 4), .inl (cI, 8, .inl (fun _ => 0))), ((aX0 5), .inl (cI, 8, .inl (fun _ => 0)))] := hD
  refine lv_aload_n hx hb dX9_init_97 rfl (lv_at hl 0 rfl) ?_
  refine va_new (ci := 5) (fs := [.null]) (C := RX5) (T := TX5) (N := 1) hx hb hts iX5 tyX5 tyX5_ok hown (hts _ mw_217) (hts _ mw_218) (hts _ mw_28) hK hP hD hS hA rfl (fun j hj => by rcases (show j = 0 by omega) with rfl <;> rfl) (Nat.le_of_ble_eq_true rfl) (Nat.le_of_ble_eq_true rfl) dX9_init_98 (fun q98 H hP hD hS => ?_)
  refine W.widen (k := 33) (n := 453) (Nat.le_of_ble_eq_true rfl) (Nat.le_of_ble_eq_true rfl) ?_
  replace hP : va_P D vwCl [(h0, .inr (9, [.int 0, .ref (aX8 0), .ref (aX1 0), .ref (aX7 0), .ref (aX3 0), .ref (aX6 0), .ref (aX2 0), .ref (aX4 0), .ref (aX0 0), .null])), ((aX8 0), .inr (8, [.ref (aX8 1), .ref (aX8 2), .ref (aX8 3), .int 0, .int 0, .int 0, .int 0])), ((aX8 1), .inl (cI, 48, .inl (fun _ => 0))), ((aX8 2), .inl (cZ, 48, .inl (fun _ => 0))), ((aX8 3), .inl (cZ, 12, .inl (fun _ => 0))), ((aX1 0), .inr (1, [.ref (aX1 1), .ref (aX1 2)])), ((aX1 1), .inl (cI, 12, .inl (fun _ => 0))), ((aX1 2), .inl (cI, 12, .inl (fun _ => 0))), ((aX7 0), .inr (7, [.ref (aX7 1), .ref (aX7 2), .ref (aX7 3), .int (i7_weather vX7)])), ((aX7 1), .inl (cI, 12, .inl (i7_limits vX7))), ((aX7 2), .inl (cI, 12, .inl (i7_shown vX7))), ((aX7 3), .inl (cI, 12, .inl (i7_loweredAt vX7))), ((aX3 0), .inr (3, [.ref (aX3 1), .ref (aX3 2), .ref (aX3 3)])), ((aX3 1), .inl (cI, 48, .inl (i3_orders vX3))), ((aX3 2), .inl (cI, 48, .inl (i3_told vX3))), ((aX3 3), .inl (cI, 48, .inl (i3_shown vX3))), ((aX6 0), .inr (6, [.ref (aX6 1), .ref (aX6 2)])), ((aX6 1), .inl (cZ, 12, .inl (i6_open vX6))), ((aX6 2), .inl (cI, 12, .inl (i6_foundClearAt vX6))), ((aX2 0), .inr (2, [.ref (aX2 1), .ref (aX2 2), .ref (aX2 3), .int 0])), ((aX2 1), .inl (cI, 12, .inl (fun _ => 0))), ((aX2 2), .inl (cI, 12, .inl (fun _ => 0))), ((aX2 3), .inl (cI, 12, .inl (fun _ => 0))), ((aX4 0), .inr (4, [.ref (aX4 1), .ref (aX4 2), .ref (aX4 3)])), ((aX4 1), .inl (cI, 3, .inl (fun _ => 0))), ((aX4 2), .inl (cI, 3, .inl (upd (upd (upd (fun _ => 0) (0 : Int32).toNatClampNeg (-1)) (1 : Int32).toNatClampNeg (-1)) (2 : Int32).toNatClampNeg (-1)))), ((aX4 3), .inl (cI, 3, .inl (fun _ => 0))), ((aX0 0), .inr (0, [.ref (aX0 1), .ref (aX0 2), .ref (aX0 3), .ref (aX0 4), .ref (aX0 5), .int 0])), ((aX0 1), .inl (cI, 8, .inl (fun _ => 0))), ((aX0 2), .inl (cI, 8, .inl (fun _ => 0))), ((aX0 3), .inl (cI, 8, .inl (fun _ => 0))), ((aX0 4), .inl (cI, 8, .inl (fun _ => 0))), ((aX0 5), .inl (cI, 8, .inl (fun _ => 0))), (q98, .inr (5, [.null]))] H := hP
  replace hD : va_D A [(h0, .inr (9, [.int 0, .ref (aX8 0), .ref (aX1 0), .ref (aX7 0), .ref (aX3 0), .ref (aX6 0), .ref (aX2 0), .ref (aX4 0), .ref (aX0 0), .null])), ((aX8 0), .inr (8, [.ref (aX8 1), .ref (aX8 2), .ref (aX8 3), .int 0, .int 0, .int 0, .int 0])), ((aX8 1), .inl (cI, 48, .inl (fun _ => 0))), ((aX8 2), .inl (cZ, 48, .inl (fun _ => 0))), ((aX8 3), .inl (cZ, 12, .inl (fun _ => 0))), ((aX1 0), .inr (1, [.ref (aX1 1), .ref (aX1 2)])), ((aX1 1), .inl (cI, 12, .inl (fun _ => 0))), ((aX1 2), .inl (cI, 12, .inl (fun _ => 0))), ((aX7 0), .inr (7, [.ref (aX7 1), .ref (aX7 2), .ref (aX7 3), .int (i7_weather vX7)])), ((aX7 1), .inl (cI, 12, .inl (i7_limits vX7))), ((aX7 2), .inl (cI, 12, .inl (i7_shown vX7))), ((aX7 3), .inl (cI, 12, .inl (i7_loweredAt vX7))), ((aX3 0), .inr (3, [.ref (aX3 1), .ref (aX3 2), .ref (aX3 3)])), ((aX3 1), .inl (cI, 48, .inl (i3_orders vX3))), ((aX3 2), .inl (cI, 48, .inl (i3_told vX3))), ((aX3 3), .inl (cI, 48, .inl (i3_shown vX3))), ((aX6 0), .inr (6, [.ref (aX6 1), .ref (aX6 2)])), ((aX6 1), .inl (cZ, 12, .inl (i6_open vX6))), ((aX6 2), .inl (cI, 12, .inl (i6_foundClearAt vX6))), ((aX2 0), .inr (2, [.ref (aX2 1), .ref (aX2 2), .ref (aX2 3), .int 0])), ((aX2 1), .inl (cI, 12, .inl (fun _ => 0))), ((aX2 2), .inl (cI, 12, .inl (fun _ => 0))), ((aX2 3), .inl (cI, 12, .inl (fun _ => 0))), ((aX4 0), .inr (4, [.ref (aX4 1), .ref (aX4 2), .ref (aX4 3)])), ((aX4 1), .inl (cI, 3, .inl (fun _ => 0))), ((aX4 2), .inl (cI, 3, .inl (upd (upd (upd (fun _ => 0) (0 : Int32).toNatClampNeg (-1)) (1 : Int32).toNatClampNeg (-1)) (2 : Int32).toNatClampNeg (-1)))), ((aX4 3), .inl (cI, 3, .inl (fun _ => 0))), ((aX0 0), .inr (0, [.ref (aX0 1), .ref (aX0 2), .ref (aX0 3), .ref (aX0 4), .ref (aX0 5), .int 0])), ((aX0 1), .inl (cI, 8, .inl (fun _ => 0))), ((aX0 2), .inl (cI, 8, .inl (fun _ => 0))), ((aX0 3), .inl (cI, 8, .inl (fun _ => 0))), ((aX0 4), .inl (cI, 8, .inl (fun _ => 0))), ((aX0 5), .inl (cI, 8, .inl (fun _ => 0))), (q98, .inr (5, [.null]))] := hD
  refine lv_dup hx hb dX9_init_101 rfl ?_
  refine cc_cIN (rest := [.ref q98, .ref h0]) (wr := [(h0, .inr (9, [.int 0, .ref (aX8 0), .ref (aX1 0), .ref (aX7 0), .ref (aX3 0), .ref (aX6 0), .ref (aX2 0), .ref (aX4 0), .ref (aX0 0), .null])), ((aX8 0), .inr (8, [.ref (aX8 1), .ref (aX8 2), .ref (aX8 3), .int 0, .int 0, .int 0, .int 0])), ((aX8 1), .inl (cI, 48, .inl (fun _ => 0))), ((aX8 2), .inl (cZ, 48, .inl (fun _ => 0))), ((aX8 3), .inl (cZ, 12, .inl (fun _ => 0))), ((aX1 0), .inr (1, [.ref (aX1 1), .ref (aX1 2)])), ((aX1 1), .inl (cI, 12, .inl (fun _ => 0))), ((aX1 2), .inl (cI, 12, .inl (fun _ => 0))), ((aX7 0), .inr (7, [.ref (aX7 1), .ref (aX7 2), .ref (aX7 3), .int (i7_weather vX7)])), ((aX7 1), .inl (cI, 12, .inl (i7_limits vX7))), ((aX7 2), .inl (cI, 12, .inl (i7_shown vX7))), ((aX7 3), .inl (cI, 12, .inl (i7_loweredAt vX7))), ((aX3 0), .inr (3, [.ref (aX3 1), .ref (aX3 2), .ref (aX3 3)])), ((aX3 1), .inl (cI, 48, .inl (i3_orders vX3))), ((aX3 2), .inl (cI, 48, .inl (i3_told vX3))), ((aX3 3), .inl (cI, 48, .inl (i3_shown vX3))), ((aX6 0), .inr (6, [.ref (aX6 1), .ref (aX6 2)])), ((aX6 1), .inl (cZ, 12, .inl (i6_open vX6))), ((aX6 2), .inl (cI, 12, .inl (i6_foundClearAt vX6))), ((aX2 0), .inr (2, [.ref (aX2 1), .ref (aX2 2), .ref (aX2 3), .int 0])), ((aX2 1), .inl (cI, 12, .inl (fun _ => 0))), ((aX2 2), .inl (cI, 12, .inl (fun _ => 0))), ((aX2 3), .inl (cI, 12, .inl (fun _ => 0))), ((aX4 0), .inr (4, [.ref (aX4 1), .ref (aX4 2), .ref (aX4 3)])), ((aX4 1), .inl (cI, 3, .inl (fun _ => 0))), ((aX4 2), .inl (cI, 3, .inl (upd (upd (upd (fun _ => 0) (0 : Int32).toNatClampNeg (-1)) (1 : Int32).toNatClampNeg (-1)) (2 : Int32).toNatClampNeg (-1)))), ((aX4 3), .inl (cI, 3, .inl (fun _ => 0))), ((aX0 0), .inr (0, [.ref (aX0 1), .ref (aX0 2), .ref (aX0 3), .ref (aX0 4), .ref (aX0 5), .int 0])), ((aX0 1), .inl (cI, 8, .inl (fun _ => 0))), ((aX0 2), .inl (cI, 8, .inl (fun _ => 0))), ((aX0 3), .inl (cI, 8, .inl (fun _ => 0))), ((aX0 4), .inl (cI, 8, .inl (fun _ => 0))), ((aX0 5), .inl (cI, 8, .inl (fun _ => 0)))]) ⟨hx, hb, hml, hown, hts⟩ (kc_X5 l D cI cZ q98) ⟨va_cnB 0 hts (gwM mw_221) rfl rfl rfl (hZ.1 ("RedcrossGantry", 71, yX5_init) (by decide +kernel)) (hts _ mw_28) (by decide +kernel) ⟨Nat.le_of_ble_eq_true rfl, Nat.le_of_ble_eq_true rfl⟩, rfl, hts _ mw_220⟩ hK hP hD hS hA hZ [33] [0, 1, 2, 3, 4, 5, 6, 7, 8, 9, 10, 11, 12, 13, 14, 15, 16, 17, 18, 19, 20, 21, 22, 23, 24, 25, 26, 27, 28, 29, 30, 31, 32] rfl rfl (by decide) rfl (by decide) (by decide) hl.1 rfl (Nat.le_of_ble_eq_true rfl) dX9_init_102 ⟨Nat.le_of_ble_eq_true rfl, Nat.le_of_ble_eq_true rfl⟩ (fun aX5 H locs eaX5 hP9 hD9 hS => ?_)
  subst eaX5
  refine W.widen (k := 34) (n := 1173) (Nat.le_of_ble_eq_true rfl) (Nat.le_of_ble_eq_true rfl) ?_
  replace hP : va_P D vwCl [(h0, .inr (9, [.int 0, .ref (aX8 0), .ref (aX1 0), .ref (aX7 0), .ref (aX3 0), .ref (aX6 0), .ref (aX2 0), .ref (aX4 0), .ref (aX0 0), .null])), ((aX8 0), .inr (8, [.ref (aX8 1), .ref (aX8 2), .ref (aX8 3), .int 0, .int 0, .int 0, .int 0])), ((aX8 1), .inl (cI, 48, .inl (fun _ => 0))), ((aX8 2), .inl (cZ, 48, .inl (fun _ => 0))), ((aX8 3), .inl (cZ, 12, .inl (fun _ => 0))), ((aX1 0), .inr (1, [.ref (aX1 1), .ref (aX1 2)])), ((aX1 1), .inl (cI, 12, .inl (fun _ => 0))), ((aX1 2), .inl (cI, 12, .inl (fun _ => 0))), ((aX7 0), .inr (7, [.ref (aX7 1), .ref (aX7 2), .ref (aX7 3), .int (i7_weather vX7)])), ((aX7 1), .inl (cI, 12, .inl (i7_limits vX7))), ((aX7 2), .inl (cI, 12, .inl (i7_shown vX7))), ((aX7 3), .inl (cI, 12, .inl (i7_loweredAt vX7))), ((aX3 0), .inr (3, [.ref (aX3 1), .ref (aX3 2), .ref (aX3 3)])), ((aX3 1), .inl (cI, 48, .inl (i3_orders vX3))), ((aX3 2), .inl (cI, 48, .inl (i3_told vX3))), ((aX3 3), .inl (cI, 48, .inl (i3_shown vX3))), ((aX6 0), .inr (6, [.ref (aX6 1), .ref (aX6 2)])), ((aX6 1), .inl (cZ, 12, .inl (i6_open vX6))), ((aX6 2), .inl (cI, 12, .inl (i6_foundClearAt vX6))), ((aX2 0), .inr (2, [.ref (aX2 1), .ref (aX2 2), .ref (aX2 3), .int 0])), ((aX2 1), .inl (cI, 12, .inl (fun _ => 0))), ((aX2 2), .inl (cI, 12, .inl (fun _ => 0))), ((aX2 3), .inl (cI, 12, .inl (fun _ => 0))), ((aX4 0), .inr (4, [.ref (aX4 1), .ref (aX4 2), .ref (aX4 3)])), ((aX4 1), .inl (cI, 3, .inl (fun _ => 0))), ((aX4 2), .inl (cI, 3, .inl (upd (upd (upd (fun _ => 0) (0 : Int32).toNatClampNeg (-1)) (1 : Int32).toNatClampNeg (-1)) (2 : Int32).toNatClampNeg (-1)))), ((aX4 3), .inl (cI, 3, .inl (fun _ => 0))), ((aX0 0), .inr (0, [.ref (aX0 1), .ref (aX0 2), .ref (aX0 3), .ref (aX0 4), .ref (aX0 5), .int 0])), ((aX0 1), .inl (cI, 8, .inl (fun _ => 0))), ((aX0 2), .inl (cI, 8, .inl (fun _ => 0))), ((aX0 3), .inl (cI, 8, .inl (fun _ => 0))), ((aX0 4), .inl (cI, 8, .inl (fun _ => 0))), ((aX0 5), .inl (cI, 8, .inl (fun _ => 0))), ((aX5 0), .inr (5, [.ref (aX5 1)])), ((aX5 1), .inl (cI, 720, .inl (fun _ => 0)))] H := hP9
  replace hD : va_D A [(h0, .inr (9, [.int 0, .ref (aX8 0), .ref (aX1 0), .ref (aX7 0), .ref (aX3 0), .ref (aX6 0), .ref (aX2 0), .ref (aX4 0), .ref (aX0 0), .null])), ((aX8 0), .inr (8, [.ref (aX8 1), .ref (aX8 2), .ref (aX8 3), .int 0, .int 0, .int 0, .int 0])), ((aX8 1), .inl (cI, 48, .inl (fun _ => 0))), ((aX8 2), .inl (cZ, 48, .inl (fun _ => 0))), ((aX8 3), .inl (cZ, 12, .inl (fun _ => 0))), ((aX1 0), .inr (1, [.ref (aX1 1), .ref (aX1 2)])), ((aX1 1), .inl (cI, 12, .inl (fun _ => 0))), ((aX1 2), .inl (cI, 12, .inl (fun _ => 0))), ((aX7 0), .inr (7, [.ref (aX7 1), .ref (aX7 2), .ref (aX7 3), .int (i7_weather vX7)])), ((aX7 1), .inl (cI, 12, .inl (i7_limits vX7))), ((aX7 2), .inl (cI, 12, .inl (i7_shown vX7))), ((aX7 3), .inl (cI, 12, .inl (i7_loweredAt vX7))), ((aX3 0), .inr (3, [.ref (aX3 1), .ref (aX3 2), .ref (aX3 3)])), ((aX3 1), .inl (cI, 48, .inl (i3_orders vX3))), ((aX3 2), .inl (cI, 48, .inl (i3_told vX3))), ((aX3 3), .inl (cI, 48, .inl (i3_shown vX3))), ((aX6 0), .inr (6, [.ref (aX6 1), .ref (aX6 2)])), ((aX6 1), .inl (cZ, 12, .inl (i6_open vX6))), ((aX6 2), .inl (cI, 12, .inl (i6_foundClearAt vX6))), ((aX2 0), .inr (2, [.ref (aX2 1), .ref (aX2 2), .ref (aX2 3), .int 0])), ((aX2 1), .inl (cI, 12, .inl (fun _ => 0))), ((aX2 2), .inl (cI, 12, .inl (fun _ => 0))), ((aX2 3), .inl (cI, 12, .inl (fun _ => 0))), ((aX4 0), .inr (4, [.ref (aX4 1), .ref (aX4 2), .ref (aX4 3)])), ((aX4 1), .inl (cI, 3, .inl (fun _ => 0))), ((aX4 2), .inl (cI, 3, .inl (upd (upd (upd (fun _ => 0) (0 : Int32).toNatClampNeg (-1)) (1 : Int32).toNatClampNeg (-1)) (2 : Int32).toNatClampNeg (-1)))), ((aX4 3), .inl (cI, 3, .inl (fun _ => 0))), ((aX0 0), .inr (0, [.ref (aX0 1), .ref (aX0 2), .ref (aX0 3), .ref (aX0 4), .ref (aX0 5), .int 0])), ((aX0 1), .inl (cI, 8, .inl (fun _ => 0))), ((aX0 2), .inl (cI, 8, .inl (fun _ => 0))), ((aX0 3), .inl (cI, 8, .inl (fun _ => 0))), ((aX0 4), .inl (cI, 8, .inl (fun _ => 0))), ((aX0 5), .inl (cI, 8, .inl (fun _ => 0))), ((aX5 0), .inr (5, [.ref (aX5 1)])), ((aX5 1), .inl (cI, 720, .inl (fun _ => 0)))] := hD9
  refine va_putF (D := D) (ci := 9) (v := .ref (aX5 0)) (ty := (.object "RedcrossGantry$Proofs")) (C := RX9) (T := TX9) (N := 10) hx hb hts iX9 tyX9 tyX9_ok nmX9 hown hK hP hD hS 0 rfl rfl 9 (by decide) hf72 (fun _ h9 => h9) rfl hin rfl (by decide +kernel) rfl rfl (Nat.le_of_ble_eq_true rfl) dX9_init_105 (fun H locs hP hD hS => ?_)
  replace hP : va_P D vwCl [(h0, .inr (9, [.int 0, .ref (aX8 0), .ref (aX1 0), .ref (aX7 0), .ref (aX3 0), .ref (aX6 0), .ref (aX2 0), .ref (aX4 0), .ref (aX0 0), .ref (aX5 0)])), ((aX8 0), .inr (8, [.ref (aX8 1), .ref (aX8 2), .ref (aX8 3), .int 0, .int 0, .int 0, .int 0])), ((aX8 1), .inl (cI, 48, .inl (fun _ => 0))), ((aX8 2), .inl (cZ, 48, .inl (fun _ => 0))), ((aX8 3), .inl (cZ, 12, .inl (fun _ => 0))), ((aX1 0), .inr (1, [.ref (aX1 1), .ref (aX1 2)])), ((aX1 1), .inl (cI, 12, .inl (fun _ => 0))), ((aX1 2), .inl (cI, 12, .inl (fun _ => 0))), ((aX7 0), .inr (7, [.ref (aX7 1), .ref (aX7 2), .ref (aX7 3), .int (i7_weather vX7)])), ((aX7 1), .inl (cI, 12, .inl (i7_limits vX7))), ((aX7 2), .inl (cI, 12, .inl (i7_shown vX7))), ((aX7 3), .inl (cI, 12, .inl (i7_loweredAt vX7))), ((aX3 0), .inr (3, [.ref (aX3 1), .ref (aX3 2), .ref (aX3 3)])), ((aX3 1), .inl (cI, 48, .inl (i3_orders vX3))), ((aX3 2), .inl (cI, 48, .inl (i3_told vX3))), ((aX3 3), .inl (cI, 48, .inl (i3_shown vX3))), ((aX6 0), .inr (6, [.ref (aX6 1), .ref (aX6 2)])), ((aX6 1), .inl (cZ, 12, .inl (i6_open vX6))), ((aX6 2), .inl (cI, 12, .inl (i6_foundClearAt vX6))), ((aX2 0), .inr (2, [.ref (aX2 1), .ref (aX2 2), .ref (aX2 3), .int 0])), ((aX2 1), .inl (cI, 12, .inl (fun _ => 0))), ((aX2 2), .inl (cI, 12, .inl (fun _ => 0))), ((aX2 3), .inl (cI, 12, .inl (fun _ => 0))), ((aX4 0), .inr (4, [.ref (aX4 1), .ref (aX4 2), .ref (aX4 3)])), ((aX4 1), .inl (cI, 3, .inl (fun _ => 0))), ((aX4 2), .inl (cI, 3, .inl (upd (upd (upd (fun _ => 0) (0 : Int32).toNatClampNeg (-1)) (1 : Int32).toNatClampNeg (-1)) (2 : Int32).toNatClampNeg (-1)))), ((aX4 3), .inl (cI, 3, .inl (fun _ => 0))), ((aX0 0), .inr (0, [.ref (aX0 1), .ref (aX0 2), .ref (aX0 3), .ref (aX0 4), .ref (aX0 5), .int 0])), ((aX0 1), .inl (cI, 8, .inl (fun _ => 0))), ((aX0 2), .inl (cI, 8, .inl (fun _ => 0))), ((aX0 3), .inl (cI, 8, .inl (fun _ => 0))), ((aX0 4), .inl (cI, 8, .inl (fun _ => 0))), ((aX0 5), .inl (cI, 8, .inl (fun _ => 0))), ((aX5 0), .inr (5, [.ref (aX5 1)])), ((aX5 1), .inl (cI, 720, .inl (fun _ => 0)))] H := hP
  replace hD : va_D A [(h0, .inr (9, [.int 0, .ref (aX8 0), .ref (aX1 0), .ref (aX7 0), .ref (aX3 0), .ref (aX6 0), .ref (aX2 0), .ref (aX4 0), .ref (aX0 0), .ref (aX5 0)])), ((aX8 0), .inr (8, [.ref (aX8 1), .ref (aX8 2), .ref (aX8 3), .int 0, .int 0, .int 0, .int 0])), ((aX8 1), .inl (cI, 48, .inl (fun _ => 0))), ((aX8 2), .inl (cZ, 48, .inl (fun _ => 0))), ((aX8 3), .inl (cZ, 12, .inl (fun _ => 0))), ((aX1 0), .inr (1, [.ref (aX1 1), .ref (aX1 2)])), ((aX1 1), .inl (cI, 12, .inl (fun _ => 0))), ((aX1 2), .inl (cI, 12, .inl (fun _ => 0))), ((aX7 0), .inr (7, [.ref (aX7 1), .ref (aX7 2), .ref (aX7 3), .int (i7_weather vX7)])), ((aX7 1), .inl (cI, 12, .inl (i7_limits vX7))), ((aX7 2), .inl (cI, 12, .inl (i7_shown vX7))), ((aX7 3), .inl (cI, 12, .inl (i7_loweredAt vX7))), ((aX3 0), .inr (3, [.ref (aX3 1), .ref (aX3 2), .ref (aX3 3)])), ((aX3 1), .inl (cI, 48, .inl (i3_orders vX3))), ((aX3 2), .inl (cI, 48, .inl (i3_told vX3))), ((aX3 3), .inl (cI, 48, .inl (i3_shown vX3))), ((aX6 0), .inr (6, [.ref (aX6 1), .ref (aX6 2)])), ((aX6 1), .inl (cZ, 12, .inl (i6_open vX6))), ((aX6 2), .inl (cI, 12, .inl (i6_foundClearAt vX6))), ((aX2 0), .inr (2, [.ref (aX2 1), .ref (aX2 2), .ref (aX2 3), .int 0])), ((aX2 1), .inl (cI, 12, .inl (fun _ => 0))), ((aX2 2), .inl (cI, 12, .inl (fun _ => 0))), ((aX2 3), .inl (cI, 12, .inl (fun _ => 0))), ((aX4 0), .inr (4, [.ref (aX4 1), .ref (aX4 2), .ref (aX4 3)])), ((aX4 1), .inl (cI, 3, .inl (fun _ => 0))), ((aX4 2), .inl (cI, 3, .inl (upd (upd (upd (fun _ => 0) (0 : Int32).toNatClampNeg (-1)) (1 : Int32).toNatClampNeg (-1)) (2 : Int32).toNatClampNeg (-1)))), ((aX4 3), .inl (cI, 3, .inl (fun _ => 0))), ((aX0 0), .inr (0, [.ref (aX0 1), .ref (aX0 2), .ref (aX0 3), .ref (aX0 4), .ref (aX0 5), .int 0])), ((aX0 1), .inl (cI, 8, .inl (fun _ => 0))), ((aX0 2), .inl (cI, 8, .inl (fun _ => 0))), ((aX0 3), .inl (cI, 8, .inl (fun _ => 0))), ((aX0 4), .inl (cI, 8, .inl (fun _ => 0))), ((aX0 5), .inl (cI, 8, .inl (fun _ => 0))), ((aX5 0), .inr (5, [.ref (aX5 1)])), ((aX5 1), .inl (cI, 720, .inl (fun _ => 0)))] := hD
  obtain ⟨ad, ead⟩ : ∃ z : Nat → Nat, z = (fun k => ([h0, (aX8 0), (aX1 0), (aX7 0), (aX3 0), (aX6 0), (aX2 0), (aX4 0), (aX0 0), (aX5 0), (aX8 1), (aX8 2), (aX8 3), (aX1 1), (aX1 2), (aX7 1), (aX7 2), (aX7 3), (aX3 1), (aX3 2), (aX3 3), (aX6 1), (aX6 2), (aX2 1), (aX2 2), (aX2 3), (aX4 1), (aX4 2), (aX4 3), (aX0 1), (aX0 2), (aX0 3), (aX0 4), (aX0 5), (aX5 1)] : List Nat).getD k 0) := ⟨_, rfl⟩
  have had0 : ad 0 = h0 := by rw [ead]; rfl
  replace hP : va_P D vwCl (wC cI cZ ad (u0_X9 vX7 vX3 vX6)) H := by rw [ead]; exact hP.sub [0, 1, 5, 8, 12, 16, 19, 23, 27, 33, 2, 3, 4, 6, 7, 9, 10, 11, 13, 14, 15, 17, 18, 20, 21, 22, 24, 25, 26, 28, 29, 30, 31, 32, 34] rfl
  replace hD : va_D A (wC cI cZ ad (u0_X9 vX7 vX3 vX6)) := by rw [ead]; exact hD.sub [0, 1, 5, 8, 12, 16, 19, 23, 27, 33, 2, 3, 4, 6, 7, 9, 10, 11, 13, 14, 15, 17, 18, 20, 21, 22, 24, 25, 26, 28, 29, 30, 31, 32, 34] (by decide) rfl
  replace hl : lv_has ls 1 [(0, .ref (ad 0))] := by rw [had0]; exact hl
  generalize u0_X9 vX7 vX3 vX6 = u at h hP hD
  refine lv_aload_n hx hb dX9_init_108 rfl (lv_at hl 0 rfl) ?_
  refine va_get (D := D) (ci := 9) (v := .ref (ad 4)) (C := RX9) (T := TX9) (N := 10) hx hb hts iX9 hown hK hP 0 rfl rfl 4 (by decide) hf37 (fun _ h9 => h9) rfl dX9_init_109 ?_
  refine lv_aload_n hx hb dX9_init_112 rfl (lv_at hl 0 rfl) ?_
  refine va_get (D := D) (ci := 9) (v := .int (c_minute u)) (C := RX9) (T := TX9) (N := 10) hx hb hts iX9 hown hK hP 0 rfl rfl 0 (by decide) hf7 (fun _ h9 => h9) rfl dX9_init_113 ?_
  refine lv_aload_n hx hb dX9_init_116 rfl (lv_at hl 0 rfl) ?_
  refine va_get (D := D) (ci := 9) (v := .ref (ad 5)) (C := RX9) (T := TX9) (N := 10) hx hb hts iX9 hown hK hP 0 rfl rfl 5 (by decide) hf44 (fun _ h9 => h9) rfl dX9_init_117 ?_
  refine lv_aload_n hx hb dX9_init_120 rfl (lv_at hl 0 rfl) ?_
  refine va_get (D := D) (ci := 9) (v := .ref (ad 6)) (C := RX9) (T := TX9) (N := 10) hx hb hts iX9 hown hK hP 0 rfl rfl 6 (by decide) hf51 (fun _ h9 => h9) rfl dX9_init_121 ?_
  refine lv_aload_n hx hb dX9_init_124 rfl (lv_at hl 0 rfl) ?_
  refine va_get (D := D) (ci := 9) (v := .ref (ad 8)) (C := RX9) (T := TX9) (N := 10) hx hb hts iX9 hown hK hP 0 rfl rfl 8 (by decide) hf65 (fun _ h9 => h9) rfl dX9_init_125 ?_
  obtain ⟨y1, hc2, h⟩ := gx_bind h
  refine cc_vV (As := [.int (c_minute u), .ref (ad 5), .ref (ad 6), .ref (ad 8)]) (rest := []) ⟨hx, hb, hml, hown, hts⟩ (k_X3_setAnew l D cI cZ ad u (c_minute u) hc2) (cwV 4 hts (gwV mw_227 mw_228 mw_229 mw_23 mw_230) rfl rfl rfl (by decide +kernel) ⟨Nat.le_of_ble_eq_true rfl, Nat.le_of_ble_eq_true rfl⟩) hK hP hD hS hA hZ (ci := 3) (q0 := 4) rfl rfl rfl hl.1 rfl (Nat.le_of_ble_eq_true rfl) dX9_init_128 ⟨Nat.le_of_ble_eq_true rfl, Nat.le_of_ble_eq_true rfl⟩ (fun H locs hP hD hS => ?_)
  refine lv_aload_n hx hb dX9_init_131 rfl (lv_at hl 0 rfl) ?_
  refine va_get (D := D) (ci := 9) (v := .ref (ad 9)) (C := RX9) (T := TX9) (N := 10) hx hb hts iX9 hown hK hP 0 rfl rfl 9 (by decide) hf72 (fun _ h9 => h9) rfl dX9_init_132 ?_
  refine lv_aload_n hx hb dX9_init_135 rfl (lv_at hl 0 rfl) ?_
  refine va_get (D := D) (ci := 9) (v := .int (c_minute y1)) (C := RX9) (T := TX9) (N := 10) hx hb hts iX9 hown hK hP 0 rfl rfl 0 (by decide) hf7 (fun _ h9 => h9) rfl dX9_init_136 ?_
  refine lv_aload_n hx hb dX9_init_139 rfl (lv_at hl 0 rfl) ?_
  refine va_get (D := D) (ci := 9) (v := .ref (ad 3)) (C := RX9) (T := TX9) (N := 10) hx hb hts iX9 hown hK hP 0 rfl rfl 3 (by decide) hf30 (fun _ h9 => h9) rfl dX9_init_140 ?_
  refine va_get (D := D) (ci := 7) (v := .ref (ad 16)) (C := RX7) (T := TX7) (N := 4) hx hb hts iX7 hown hK hP 3 rfl rfl 1 (by decide) hf80 (fun _ h9 => h9) rfl dX9_init_143 ?_
  refine lv_aload_n hx hb dX9_init_146 rfl (lv_at hl 0 rfl) ?_
  refine va_get (D := D) (ci := 9) (v := .ref (ad 4)) (C := RX9) (T := TX9) (N := 10) hx hb hts iX9 hown hK hP 0 rfl rfl 4 (by decide) hf37 (fun _ h9 => h9) rfl dX9_init_147 ?_
  refine va_get (D := D) (ci := 3) (v := .ref (ad 20)) (C := RX3) (T := TX3) (N := 3) hx hb hts iX3 hown hK hP 4 rfl rfl 2 (by decide) hf84 (fun _ h9 => h9) rfl dX9_init_150 ?_
  obtain ⟨y3, hc4, h⟩ := gx_bind h
  refine cc_vV (As := [.int (c_minute y1), .ref (ad 16), .ref (ad 20)]) (rest := []) ⟨hx, hb, hml, hown, hts⟩ (k_X5_keep l D cI cZ ad y1 (c_minute y1) hc4) (cwV 3 hts (gwV mw_263 mw_264 mw_265 mw_28 mw_266) rfl rfl rfl (by decide +kernel) ⟨Nat.le_of_ble_eq_true rfl, Nat.le_of_ble_eq_true rfl⟩) hK hP hD hS hA hZ (ci := 5) (q0 := 9) rfl rfl rfl hl.1 rfl (Nat.le_of_ble_eq_true rfl) dX9_init_153 ⟨Nat.le_of_ble_eq_true rfl, Nat.le_of_ble_eq_true rfl⟩ (fun H locs hP hD hS => ?_)
  cases h
  exact cc_cret ad hx hb hr hQ hK had0 rfl hP hD hS dX9_init_156 hlocks
