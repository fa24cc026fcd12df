/-! the calls of the run, at states that are written out: values by the kernel -/
def vTold (j : Nat) : Int32 := if j % 4 = 0 then 2 else 0
def vKept (j : Nat) : Int32 := if j < 12 then 30722 else 0
/-- the object as it is made -/
def uI : GS := ((0 : Int32), ((fun _ => 0), (fun _ => 0), (fun _ => 0), (0 : Int32), (0 : Int32), (0 : Int32), (0 : Int32)), ((fun _ => 0), (fun _ => 0)), ((fun _ => -1), (fun _ => 120), (fun _ => -1000), (0 : Int32)), ((fun _ => -1), vTold, vTold), ((fun _ => 0), (fun _ => -1000)), ((fun _ => 0), (fun _ => 0), (fun _ => 0), (0 : Int32)), ((fun _ => 0), (fun _ => -1), (fun _ => 0)), ((fun _ => 0), (fun _ => 0), (fun _ => 0), (fun _ => 0), (fun _ => 0), (0 : Int32)), vKept)
/-- and behind the first stop at the section 5, lane 1 -/
def uS : GS := cT_stopped_set uI (fun j => if j = 21 then 1 else 0)
def eqn (n : Nat) (f g : Nat → Int32) : Bool := (List.range n).all fun j => decide (f j = g j)
theorem eqn_at {n : Nat} {f g : Nat → Int32} (h : eqn n f g = true) (j : Nat) (hj : j < n) : f j = g j := of_decide_eq_true (List.all_eq_true.mp h j (List.mem_range.mpr hj))
/-- the same numbers, as far as the rows reach -/
def geqb (u v : GS) : Bool := decide (c_minute u = c_minute v) && eqn 48 (cT_held u) (cT_held v) && eqn 48 (cT_stopped u) (cT_stopped v) && eqn 12 (cT_broken u) (cT_broken v) && decide (cT_demand u = cT_demand v) && decide (cT_came u = cT_came v) && decide (cT_waiting u = cT_waiting v) && decide (cT_gone u = cT_gone v) && eqn 12 (cD_is u) (cD_is v) && eqn 12 (cD_stuckAt u) (cD_stuckAt v) && eqn 12 (cS_limits u) (cS_limits v) && eqn 12 (cS_shown u) (cS_shown v) && eqn 12 (cS_loweredAt u) (cS_loweredAt v) && decide (cS_weather u = cS_weather v) && eqn 48 (cL_orders u) (cL_orders v) && eqn 48 (cL_told u) (cL_told v) && eqn 48 (cL_shown u) (cL_shown v) && eqn 12 (cH_open u) (cH_open v) && eqn 12 (cH_foundClearAt u) (cH_foundClearAt v) && eqn 12 (cI_places u) (cI_places v) && eqn 12 (cI_how u) (cI_how v) && eqn 12 (cI_patrols u) (cI_patrols v) && decide (cI_count u = cI_count v) && eqn 3 (cP_sections u) (cP_sections v) && eqn 3 (cP_incidents u) (cP_incidents v) && eqn 3 (cP_minutesLeft u) (cP_minutesLeft v) && eqn 8 (cB_lanes u) (cB_lanes v) && eqn 8 (cB_froms u) (cB_froms v) && eqn 8 (cB_tos u) (cB_tos v) && eqn 8 (cB_begins u) (cB_begins v) && eqn 8 (cB_ends u) (cB_ends v) && decide (cB_count u = cB_count v) && eqn 720 (cK_kept u) (cK_kept v)
def ob {α : Type} (x : Option α) (f : α → Bool) : Bool := match x with
  | none => false
  | some y => f y
theorem ob_ex {α : Type} {x : Option α} {f : α → Bool} (h : ob x f = true) : ∃ y, x = some y ∧ f y = true := by
  cases x with
  | none => cases h
  | some y => exact ⟨y, rfl, h⟩
def ox (x : Option (g_X × GS)) (r : g_X → Bool) (f : GS → Bool) : Bool := ob x fun q => r q.1 && f q.2
def isR (r : Int32) : g_X → Bool
  | .inl a => decide (a = r)
  | .inr _ => false
def isE : g_X → Bool
  | .inl _ => false
  | .inr E => decide (E = "java/lang/IllegalStateException")
theorem ox_r {x : Option (g_X × GS)} {r : Int32} {f : GS → Bool} (h : ox x (isR r) f = true) : ∃ w, x = some (.inl r, w) ∧ f w = true := by
  obtain ⟨⟨q, w⟩, e, h⟩ := ob_ex h
  obtain ⟨h1, h2⟩ := Bool.and_eq_true_iff.mp h
  cases q with
  | inl a =>
    have h3 : a = r := of_decide_eq_true h1
    exact ⟨w, by rw [e, h3], h2⟩
  | inr E => cases h1
theorem ox_e {x : Option (g_X × GS)} {f : GS → Bool} (h : ox x isE f = true) : ∃ w, x = some (.inr "java/lang/IllegalStateException", w) ∧ f w = true := by
  obtain ⟨⟨q, w⟩, e, h⟩ := ob_ex h
  obtain ⟨h1, h2⟩ := Bool.and_eq_true_iff.mp h
  cases q with
  | inl a => cases h1
  | inr E =>
    have h3 : E = "java/lang/IllegalStateException" := of_decide_eq_true h1
    exact ⟨w, by rw [e, h3], h2⟩
theorem wi_r {x : Option (Int32 × GS)} {r : Int32} {f : GS → Bool} (h : (ob x fun q => decide (q.1 = r) && f q.2) = true) : ∃ w, x = some (r, w) ∧ f w = true := by
  obtain ⟨⟨q, w⟩, e, h⟩ := ob_ex h
  obtain ⟨h1, h2⟩ := Bool.and_eq_true_iff.mp h
  have h3 : q = r := of_decide_eq_true h1
  exact ⟨w, by rw [e, h3], h2⟩
set_option maxRecDepth 100000 in
theorem ev_init : (ob (g_X7_init2 u0_X7) fun a => ob (g_X3_init2 u0_X3) fun b => ob (g_X6_init2 u0_X6) fun c => ob (g_X9_init2 (u0_X9 a b c)) fun w => geqb w uI) = true := by decide +kernel
set_option maxRecDepth 100000 in
theorem ev_lawful : (ob (g_X9_isLawful uI) fun q => decide (q.1 = 1) && geqb q.2 uI) = true := by decide +kernel
set_option maxRecDepth 100000 in
theorem ev_pattern : g_X9_pattern uI = some (-1) := by decide +kernel
set_option maxRecDepth 100000 in
theorem ev_sign1 : ox (g_X9_sign uI 0 0) (isR 2) (fun w => geqb w uI) = true := by decide +kernel
set_option maxRecDepth 100000 in
theorem ev_sign2 : ox (g_X9_sign uI 11 3) (isR 0) (fun w => geqb w uI) = true := by decide +kernel
set_option maxRecDepth 100000 in
theorem ev_proof : ox (g_X9_proof uI 0 5 0) (isR 120) (fun w => geqb w uI) = true := by decide +kernel
set_option maxRecDepth 100000 in
theorem ev_shown : ox (g_L_isShown uI 0) (isR 1) (fun w => geqb w uI) = true := by decide +kernel
set_option maxRecDepth 100000 in
theorem ev_stopA : (ob (g_X9_stop uI 5 1) fun q => isR 0 q.1 && ox (g_X9_stop q.2 5 1) isE (fun w => geqb w uS)) = true := by decide +kernel
set_option maxRecDepth 100000 in
theorem ev_stopB : ox (g_X9_stop uS 5 1) isE (fun w => ox (g_X9_stop w 5 1) isE (fun w2 => geqb w2 uS)) = true := by decide +kernel
set_option maxRecDepth 100000 in
theorem ev_road : ox (g_L_isRoad uS) (isR 1) (fun w => geqb w uS) = true := by decide +kernel
