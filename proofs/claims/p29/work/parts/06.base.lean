/-! what all methods' walks share: how a pure function's answer is taken apart, the world's contract, calls -/
def FU : Nat := 1000
def g_let {α β : Type} (x : α) (f : α → β) : β := f x
def g_bind {α β : Type} (x : Option α) (f : α → Option β) : Option β := match x with
  | none => none
  | some y => f y
def g_in {α : Type} (i : Int32) (n : Nat) (a : Option α) : Option α := if i < 0 ∨ n ≤ i.toNatClampNeg then none else a
def g_nz {α : Type} (v : Int32) (a : Option α) : Option α := if v = 0 then none else a
def g_bo {α : Type} (v : Int32) (a : Option α) : Option α := if v &&& 1 = v then a else none
/-- an answer of a method that may throw: what it answers, or the exception's class -/
abbrev g_X : Type := Int32 ⊕ String
def g_xb {σ τ : Type} (x : Option (g_X × σ)) (up : σ → τ) (f : Int32 → σ → Option (g_X × τ)) : Option (g_X × τ) := match x with
  | none => none
  | some (.inl r, w) => f r w
  | some (.inr E, w) => some (.inr E, up w)
theorem gx_t {α : Type} {c : Prop} [Decidable c] {a b x : α} (hc : c) (h : (if c then a else b) = x) : a = x := by rw [if_pos hc] at h; exact h
theorem gx_f {α : Type} {c : Prop} [Decidable c] {a b x : α} (hc : ¬ c) (h : (if c then a else b) = x) : b = x := by rw [if_neg hc] at h; exact h
theorem gx_let {α β : Type} {x : α} {f : α → β} {r : β} (h : g_let x f = r) : ∃ y, x = y ∧ f y = r := ⟨x, rfl, h⟩
theorem gx_bind {α β : Type} {x : Option α} {f : α → Option β} {r : β} (h : g_bind x f = some r) : ∃ y, x = some y ∧ f y = some r := by
  cases x with
  | none => cases h
  | some y => exact ⟨y, rfl, h⟩
theorem gx_in {α : Type} {i : Int32} {n : Nat} {a : Option α} {r : α} (h : g_in i n a = some r) : vp_in i n ∧ a = some r := by
  unfold g_in at h
  split at h
  · cases h
  · rename_i q
    exact ⟨q, h⟩
theorem gx_nz {α : Type} {v : Int32} {a : Option α} {r : α} (h : g_nz v a = some r) : ¬ v = 0 ∧ a = some r := by
  unfold g_nz at h
  split at h
  · cases h
  · rename_i q
    exact ⟨q, h⟩
theorem gx_bo {α : Type} {v : Int32} {a : Option α} {r : α} (h : g_bo v a = some r) : narrow .boolean (.int v) = .int v ∧ a = some r := by
  unfold g_bo at h
  split at h
  · rename_i q
    exact ⟨congrArg Value.int q, h⟩
  · cases h
theorem gx_xr {σ τ : Type} {x : Option (g_X × σ)} {up : σ → τ} {f : Int32 → σ → Option (g_X × τ)} {r : Int32} {w' : τ} (h : g_xb x up f = some (.inl r, w')) : ∃ r1 w1, x = some (.inl r1, w1) ∧ f r1 w1 = some (.inl r, w') := by
  unfold g_xb at h
  split at h
  · cases h
  · exact ⟨_, _, rfl, h⟩
  · cases h
theorem gx_xx {σ τ : Type} {x : Option (g_X × σ)} {up : σ → τ} {f : Int32 → σ → Option (g_X × τ)} {E : String} {w' : τ} (h : g_xb x up f = some (.inr E, w')) : (∃ r1 w1, x = some (.inl r1, w1) ∧ f r1 w1 = some (.inr E, w')) ∨ (∃ w1, x = some (.inr E, w1) ∧ up w1 = w') := by
  unfold g_xb at h
  split at h
  · cases h
  · exact Or.inl ⟨_, _, rfl, h⟩
  · cases h
    exact Or.inr ⟨_, rfl, rfl⟩
theorem gx_sw0 {x : Int32} {n : Int} {z : Int32} (hz : z.toInt = n) (h : ¬ x = z) : x.toInt ≠ n := fun e => h (Int32.toInt_inj.mp (e.trans hz.symm))
/-- the static tables -/
def tioF (j : Nat) : Int32 := if j = 0 then 0 else if j = 1 then -1 else 1
def tinF (j : Nat) : Int32 := if j = 0 then -1 else if j = 1 then 1 else 0
def wlF (j : Nat) : Int32 := if j = 0 then 120 else if j = 1 then 80 else if j = 2 then 60 else 40
def nestL : List (String × Nat × MethodName) := [("RedcrossGantry", 15, yX8_init), ("RedcrossGantry", 22, yX1_init), ("RedcrossGantry", 50, yX2_init), ("RedcrossGantry", 57, yX4_init), ("RedcrossGantry", 64, yX0_init), ("RedcrossGantry", 71, yX5_init), ("RedcrossGantry$Shoulder", 23, yX9_placeOf), ("RedcrossGantry$Incidents", 25, yX9_isWithin), ("RedcrossGantry$Bookings", 31, yX9_isWithin), ("RedcrossGantry$Bookings", 49, yX9_placeOf), ("RedcrossGantry$LaneSigns", 39, yX9_isWithin), ("RedcrossGantry$Proofs", 19, yX9_placeOf), ("RedcrossGantry$Detectors", 24, yX9_isWithin), ("RedcrossGantry$Traffic", 39, yX9_isWithin), ("RedcrossGantry$Traffic", 58, yX9_placeOf), ("RedcrossGantry$SpeedSigns", 44, yX9_isWithin), ("RedcrossGantry$Shoulder", 19, yX9_isWithin), ("RedcrossGantry$Proofs", 15, yX9_isWithin)]
def declL : List MethodName := [⟨"java/lang/RuntimeException", "<init>", "(Ljava/lang/String;)V"⟩, ⟨"java/lang/Exception", "<init>", "(Ljava/lang/String;)V"⟩, ⟨"java/lang/Throwable", "<init>", "(Ljava/lang/String;)V"⟩]
def castL : List String := ["java/lang/IndexOutOfBoundsException", "java/lang/IllegalArgumentException", "java/lang/IllegalStateException"]
def ncastL : List (String × String) := []
theorem cNw_warmD {y : MethodName} {s U : State} (hW : s.WarmedH U.vm) (hZ : va_Nw (.declares y) s) : va_Nw (.declares y) U := va_tabs rfl (rfl : (s.setVm U.vm).vm = U.vm) (by rw [Cond.declares_setVm hW.alike]; exact hZ)
/-- what exceptions need of the tables, beside the words -/
def cxt (U : State) : Prop := (∀ y ∈ declL, va_Nw (.declares y) U) ∧ (∀ E ∈ castL, va_Nw (.castable E E) U) ∧ (∀ q ∈ ncastL, va_Nc q.1 q.2 U)
theorem cxt.warm {s U : State} (hW : s.WarmedH U.vm) (h : cxt s) : cxt U := ⟨fun y hy => cNw_warmD hW (h.1 y hy), fun E hE => va_Nw.warmC hW (h.2.1 E hE), fun q hq => (h.2.2 q hq).moved hW.alike⟩
theorem cxt.same {s U : State} (hv : s.vm = U.vm) (h : cxt s) : cxt U := ⟨fun y hy => va_Nw.same rfl hv (h.1 y hy), fun E hE => va_Nw.same rfl hv (h.2.1 E hE), fun q hq => (h.2.2 q hq).moved (by rw [hv]; exact Vm.Alike.refl _)⟩
/-- what stays in every run, beside a method's world: static fields, their tables, texts, links between nest mates -/
def cst (A : Nat → Prop) (U : State) : Prop :=
  (∀ q ∈ nestL, va_Nw (.methodLinkNest q.1 q.2.1 q.2.2 "RedcrossGantry") U) ∧
  (∃ t : Nat, va_Z "RedcrossGantry$Traffic" "TRIES_IF_OPEN" "[I" (.ref t) A U U.heap ∧ va_T .int t 3 (fun j => .int (tioF j)) A U U.heap) ∧
  (∃ t : Nat, va_Z "RedcrossGantry$Traffic" "TRIES_IF_NOT_OPEN" "[I" (.ref t) A U U.heap ∧ va_T .int t 3 (fun j => .int (tinF j)) A U U.heap) ∧
  (∃ t : Nat, va_Z "RedcrossGantry$SpeedSigns" "WEATHER_LETS" "[I" (.ref t) A U U.heap ∧ va_T .int t 4 (fun j => .int (wlF j)) A U U.heap) ∧
  (vx_Zq Bundle.tN "UNASSIGNED_STACK" Bundle.steD A U U.heap ∧ vx_Zq Bundle.tN "SUPPRESSED_SENTINEL" Bundle.listD A U U.heap) ∧
  (∃ a : Nat, vk_R RX9 260 "there is none of that number" a U) ∧ (∃ a : Nat, vk_R RX9 267 "an argument is out of its range" a U) ∧ (∃ a : Nat, vk_R RX9 272 "that cannot be by now" a U) ∧ cxt U
theorem cst.call {A A1 : Nat → Prop} {s U : State} {H : Heap} {locs : List Loc} (h : cst A s) (hS : va_S A s.heap H locs) (hAA : ∀ q, A1 q → A q) (hU : U.heap = H) (hW : s.WarmedH U.vm) : cst A1 U := by
  subst hU
  obtain ⟨h1, ⟨t1, a1, b1⟩, ⟨t2, a2, b2⟩, ⟨t3, a3, b3⟩, ⟨z1, z2⟩, ⟨k1, r1⟩, ⟨k2, r2⟩, ⟨k3, r3⟩, hcx⟩ := h
  exact ⟨fun q hq => va_Nw.warmM hW (h1 q hq),
    ⟨t1, ((a1.kept hS.2.1).moved hW.alike).narrow hAA, ((b1.kept hS.2.1).moved hW.alike).narrow hAA⟩,
    ⟨t2, ((a2.kept hS.2.1).moved hW.alike).narrow hAA, ((b2.kept hS.2.1).moved hW.alike).narrow hAA⟩,
    ⟨t3, ((a3.kept hS.2.1).moved hW.alike).narrow hAA, ((b3.kept hS.2.1).moved hW.alike).narrow hAA⟩,
    ⟨((z1.kept hS.2.1).moved hW.alike).narrow hAA, ((z2.kept hS.2.1).moved hW.alike).narrow hAA⟩,
    ⟨k1, vk_R.warm hW r1⟩, ⟨k2, vk_R.warm hW r2⟩, ⟨k3, vk_R.warm hW r3⟩, hcx.warm hW⟩
theorem cst.blind {A : Nat → Prop} {U : State} {g : JFrame} {mk : MethodId} {a : Array Value} (h : cst A U) : cst A (U.calling g mk a) := by
  obtain ⟨h1, ⟨t1, a1, b1⟩, ⟨t2, a2, b2⟩, ⟨t3, a3, b3⟩, ⟨z1, z2⟩, ⟨k1, r1⟩, ⟨k2, r2⟩, ⟨k3, r3⟩, hcx⟩ := h
  have e : U.vm.Alike (U.calling g mk a).vm := Vm.Alike.refl U.vm
  exact ⟨fun q hq => va_Nw.same rfl rfl (h1 q hq), ⟨t1, a1.moved e, b1.moved e⟩, ⟨t2, a2.moved e, b2.moved e⟩, ⟨t3, a3.moved e, b3.moved e⟩, ⟨z1.moved e, z2.moved e⟩, ⟨k1, vk_R.same rfl r1⟩, ⟨k2, vk_R.same rfl r2⟩, ⟨k3, vk_R.same rfl r3⟩, hcx.same rfl⟩
/-- a method's start: its world's cells, apart from each other; the heap's size; what stays -/
def cB (D : va_G) (tys : List (ClassId × FieldType)) (ws : va_W) (sz : Nat) (U : State) : Prop := U.heap.size = sz ∧ va_P D vwCl ws U.heap ∧ va_K D vwCl tys U ∧ va_D (fun _ => True) ws ∧ cst (va_A ws sz) U
def cE (D : va_G) (tys : List (ClassId × FieldType)) (ws : va_W) (A : Nat → Prop) (t : State) : Prop := va_P D vwCl ws t.heap ∧ va_K D vwCl tys t ∧ va_D A ws
theorem cB_blind {D : va_G} {tys : List (ClassId × FieldType)} {ws : va_W} {sz : Nat} {av : List Value} : FrameBlind (va_Pc av (cB D tys ws sz)) := fun a U g mk q => by
  obtain ⟨q0, q1, qP, qK, qD, qZ⟩ := q
  exact ⟨q0, q1, qP, va_K.moved (u := U) (U := U.calling g mk a) (Vm.Alike.refl U.vm) qK, qD, qZ.blind⟩
/-- a method that answers an int, and makes nothing -/
def MI (l : Launch) (y : MethodName) (wds : List Cond) (rm : Room) (D : va_G) (tys : List (ClassId × FieldType)) (ws ws' : va_W) (av : List Value) (res : Int32) : Prop :=
  ∀ sz : Nat, Met l y wds rm (va_Pc av (cB D tys ws sz)) (va_Qi (S := Unit) (fun r _ => res = r) (fun _ t => cE D tys ws' (va_A ws sz) t) (va_A ws sz)) 0 0 (va_A ws sz)
def MV (l : Launch) (y : MethodName) (wds : List Cond) (rm : Room) (D : va_G) (tys : List (ClassId × FieldType)) (ws ws' : va_W) (av : List Value) : Prop :=
  ∀ sz : Nat, Met l y wds rm (va_Pc av (cB D tys ws sz)) (va_Qv (S := Unit) (fun _ => True) (fun _ t => cE D tys ws' (va_A ws sz) t) (va_A ws sz)) 0 0 (va_A ws sz)
/-- a method that throws: one new object of six slots -/
abbrev cXC (D : va_G) (tys : List (ClassId × FieldType)) (ws ws' : va_W) (E : String) (sz : Nat) : String → State → State → Prop := vx_X (S := Unit) (fun _ => True) (fun E' _ t => (E = E' ∧ cE D tys ws' (va_A ws sz) t) ∧ sz + 1 ≤ t.heap.size) (va_A ws sz)
def XI (l : Launch) (y : MethodName) (wds : List Cond) (rm : Room) (D : va_G) (tys : List (ClassId × FieldType)) (ws ws' : va_W) (av : List Value) (E : String) : Prop :=
  ∀ sz : Nat, vx_Met l y wds rm (va_Pc av (cB D tys ws sz)) (va_Qi (S := Unit) (fun _ _ => False) (fun _ _ => True) (va_A ws sz)) (cXC D tys ws ws' E sz) 1 6 (va_A ws sz)
def XV (l : Launch) (y : MethodName) (wds : List Cond) (rm : Room) (D : va_G) (tys : List (ClassId × FieldType)) (ws ws' : va_W) (av : List Value) (E : String) : Prop :=
  ∀ sz : Nat, vx_Met l y wds rm (va_Pc av (cB D tys ws sz)) (va_Qv (S := Unit) (fun _ => False) (fun _ _ => True) (va_A ws sz)) (cXC D tys ws ws' E sz) 1 6 (va_A ws sz)
/-- Met out of a walk, for a method by whose name no table has a row of its own (Math.floorMod) -/
theorem cc_ofWF {l : Launch} {y : MethodName} {ws ws' : List Cond} {rm : Room} {Pc : Array Value → State → Prop} {Qc : Array Value → State → Outcome → State → Prop} {mc ms : Nat} {free : Addr → Prop} {cc : ByteArray} {maxL : Nat} {ret : Option FieldType}
    (hy : plainFor y = true) (hw : ws = Cond.code y cc maxL ret :: ws')
    (body : ∀ p e s m args below meth c s₁, BodyLoose p l y (headSpec ws rm) cc maxL ret e s m args below meth c s₁ → c.maxLocals = maxL → Pc args s →
      W p l e (headSpec ws rm).room s m args below meth c s.heap [] 0 0 (MQ below Qc args s mc ms free) (entryFrame m args maxL)) : Met l y ws rm Pc Qc mc ms free := by
  refine MetFree.of_bodySF (code := cc) (maxLocals := maxL) (ret := ret) hy ?_ ?_
  · intro args s m h hn
    obtain ⟨meth, c, h1, h2, h3, h4, h5, h6, -, -⟩ := Cond.code_spec hn (atoms_spec (ws := ws) h _ (by rw [hw]; exact List.mem_cons_self))
    exact ⟨meth, c, h1, h2, h3, h4, h5, h6⟩
  · intro p e s m args below meth c s₁ B hml hP _
    have hh0 : s₁.heap = s.heap := by rw [B.state]; rfl
    obtain ⟨t, a1, o, b1, b2, b3⟩ := body p e s m args below meth c s₁ B hml hP s₁ hh0 (Stand.of_body B)
    exact ⟨t, o, a1, b1, b2, ⟨b3.1, b3.2⟩⟩
section CBASE
variable {p : Program} {l : Launch} {e : Env} {R : Room} {s : State} {m : MethodId} {args : Array Value} {below : List Frame} {meth : Method} {c : Code} {H : Heap} {locs : List Loc} {cells slots : Nat} {Q : State → Prop}
variable {cc : ByteArray} {pc nL index n maxL : Nat} {ls : Array Slot} {rest st0 : List Value} {D : va_G} {tys : List (ClassId × FieldType)} {ws ws' : va_W} {A0 : Nat → Prop} {y : MethodName} {bytes : ByteArray} {ret : Option FieldType} {wds : List Cond} {rm : Room} {own C host : String} {b : Nat} {As : List Value} {res : Int32}
theorem w_gen {Q0 : State → Prop} {g : JFrame} (k : ∀ Q : State → Prop, Q = Q0 → W p l e R s m args below meth c H locs cells slots Q g) : W p l e R s m args below meth c H locs cells slots Q0 g := k Q0 rfl
theorem lv_topn {x y : Int32} (h : x = y) (k : W p l e R s m args below meth c H locs cells slots Q (F0 m pc ls (.int y :: rest))) : W p l e R s m args below meth c H locs cells slots Q (F0 m pc ls (.int x :: rest)) := by rw [h]; exact k
theorem cF {H0 : Heap} (hD : va_D A0 ws) (hS : va_S A0 H0 H locs) (hA : ∀ q : Nat, H0.size ≤ q → A0 q) : ∀ q, va_A ws H.size q → A0 q := fun q h => h.elim (fun ⟨k, e, h⟩ => hD.2 k _ h) (fun h => hA q (Nat.le_trans hS.1 h))
theorem cPre (hK : va_K D vwCl tys s) (hP : va_P D vwCl ws H) (hD : va_D A0 ws) (hS : va_S A0 s.heap H locs) (hA : ∀ q : Nat, s.heap.size ≤ q → A0 q) (hZ : cst A0 s) (av : List Value) : ∀ U : State, U.heap = H → s.WarmedH U.vm → va_Pc av (cB D tys ws H.size) av.toArray U := fun U hU hW =>
  ⟨rfl, by rw [hU], by rw [hU]; exact hP, va_K.moved hW.alike hK, hD.weaken (fun _ _ _ _ => trivial), hZ.call hS (cF hD hS hA) hU hW⟩
/-- behind a call of a method that answers an int -/
theorem cBackI {mc ms : Nat} (hr : va_Run p l e R s m args below meth c H locs cells slots mc ms (F0 m pc ls st0) rest (va_Qi (S := Unit) (fun r _ => res = r) (fun _ t => cE D tys ws' (va_A ws H.size) t) (va_A ws H.size) As.toArray) (va_A ws H.size)) (hD : va_D A0 ws) (hS : va_S A0 s.heap H locs) (hA : ∀ q : Nat, s.heap.size ≤ q → A0 q)
    (kk : ∀ (H1 : Heap) (locs1 : List Loc), va_P D vwCl ws' H1 → va_D A0 ws' → va_S A0 s.heap H1 locs1 → W p l e R s m args below meth c H1 locs1 (cells + mc) (slots + ms) Q (F0 m (pc + 3) ls (.int res :: rest))) : W p l e R s m args below meth c H locs cells slots Q (F0 m pc ls st0) := by
  have hF := cF hD hS hA
  refine va_calli hr hS (fun q _ h => hF q h) hF (fun r u t H1 locs1 ht hvm hpost hB hz1 hk1 hS1 => ?_)
  obtain ⟨hP1, hK1, hD1⟩ := hB
  rw [ht] at hP1
  subst hpost
  exact kk H1 locs1 hP1 (hD1.weaken (fun _ q _ h => hF q.1 h)) hS1
theorem cBackV {mc ms : Nat} (hr : va_Run p l e R s m args below meth c H locs cells slots mc ms (F0 m pc ls st0) rest (va_Qv (S := Unit) (fun _ => True) (fun _ t => cE D tys ws' (va_A ws H.size) t) (va_A ws H.size) As.toArray) (va_A ws H.size)) (hD : va_D A0 ws) (hS : va_S A0 s.heap H locs) (hA : ∀ q : Nat, s.heap.size ≤ q → A0 q)
    (kk : ∀ (H1 : Heap) (locs1 : List Loc), va_P D vwCl ws' H1 → va_D A0 ws' → va_S A0 s.heap H1 locs1 → W p l e R s m args below meth c H1 locs1 (cells + mc) (slots + ms) Q (F0 m (pc + 3) ls rest)) : W p l e R s m args below meth c H locs cells slots Q (F0 m pc ls st0) := by
  have hF := cF hD hS hA
  refine va_callv hr hS (fun q _ h => hF q h) hF (fun u t H1 locs1 ht hvm hpost hB hz1 hk1 hS1 => ?_)
  obtain ⟨hP1, hK1, hD1⟩ := hB
  rw [ht] at hP1
  exact kk H1 locs1 hP1 (hD1.weaken (fun _ q _ h => hF q.1 h)) hS1
theorem cc_iV (S : CallFix p m c cc nL s args Wall own) (hM : MI l y wds rm D tys ws ws' (.ref b :: As) res) (cw : CallW R s args own C index y bytes maxL ret wds rm 0 0 n) (hK : va_K D vwCl tys s) (hP : va_P D vwCl ws H) (hD : va_D A0 ws) (hS : va_S A0 s.heap H locs) (hA : ∀ q : Nat, s.heap.size ≤ q → A0 q) (hZ : cst A0 s) {ci q0 N : Nat} {T : u_T} {fs : List Value} (hci : vwCl[ci]? = some (C, T, N)) (hq : ws[q0]? = some (b, .inr (ci, fs)))
    (hn : As.length = n) (hsz : ls.size = nL) (hst : st0 = As.reverse ++ .ref b :: rest) (hw : (rest.map fun v => v.category).sum ≤ 8) (hdg : decode cc pc = .ok (.invokevirtual index, 3)) (hcs : cells ≤ R.cells ∧ slots ≤ R.slots)
    (kk : ∀ (H1 : Heap) (locs1 : List Loc), va_P D vwCl ws' H1 → va_D A0 ws' → va_S A0 s.heap H1 locs1 → W p l e R s m args below meth c H1 locs1 cells slots Q (F0 m (pc + 3) ls (.int res :: rest))) : W p l e R s m args below meth c H locs cells slots Q (F0 m pc ls st0) :=
  cBackI (As := .ref b :: As) (va_runV (As := As) (rest := rest) S (hM H.size) cw ⟨cB_blind, va_recv hK hP hci hq, cPre hK hP hD hS hA hZ _⟩ rfl hn hsz hst (lv_room hw) hdg hcs) hD hS hA kk
theorem cc_vV (S : CallFix p m c cc nL s args Wall own) (hM : MV l y wds rm D tys ws ws' (.ref b :: As)) (cw : CallW R s args own C index y bytes maxL ret wds rm 0 0 n) (hK : va_K D vwCl tys s) (hP : va_P D vwCl ws H) (hD : va_D A0 ws) (hS : va_S A0 s.heap H locs) (hA : ∀ q : Nat, s.heap.size ≤ q → A0 q) (hZ : cst A0 s) {ci q0 N : Nat} {T : u_T} {fs : List Value} (hci : vwCl[ci]? = some (C, T, N)) (hq : ws[q0]? = some (b, .inr (ci, fs)))
    (hn : As.length = n) (hsz : ls.size = nL) (hst : st0 = As.reverse ++ .ref b :: rest) (hw : (rest.map fun v => v.category).sum ≤ 8) (hdg : decode cc pc = .ok (.invokevirtual index, 3)) (hcs : cells ≤ R.cells ∧ slots ≤ R.slots)
    (kk : ∀ (H1 : Heap) (locs1 : List Loc), va_P D vwCl ws' H1 → va_D A0 ws' → va_S A0 s.heap H1 locs1 → W p l e R s m args below meth c H1 locs1 cells slots Q (F0 m (pc + 3) ls rest)) : W p l e R s m args below meth c H locs cells slots Q (F0 m pc ls st0) :=
  cBackV (As := .ref b :: As) (va_runV (As := As) (rest := rest) S (hM H.size) cw ⟨cB_blind, va_recv hK hP hci hq, cPre hK hP hD hS hA hZ _⟩ rfl hn hsz hst (lv_room hw) hdg hcs) hD hS hA kk
theorem cc_iS (S : CallFix p m c cc nL s args Wall own) (hM : MI l y wds rm D tys ws ws' As res) (cw : CallB R s args own index y bytes maxL ret wds rm 0 0 n ∧ (Cond.static y).before args s = true) (hK : va_K D vwCl tys s) (hP : va_P D vwCl ws H) (hD : va_D A0 ws) (hS : va_S A0 s.heap H locs) (hA : ∀ q : Nat, s.heap.size ≤ q → A0 q) (hZ : cst A0 s)
    (hn : As.length = n) (hsz : ls.size = nL) (hst : st0 = As.reverse ++ rest) (hw : (rest.map fun v => v.category).sum ≤ 8) (hdg : decode cc pc = .ok (.invokestatic index, 3)) (hcs : cells ≤ R.cells ∧ slots ≤ R.slots)
    (kk : ∀ (H1 : Heap) (locs1 : List Loc), va_P D vwCl ws' H1 → va_D A0 ws' → va_S A0 s.heap H1 locs1 → W p l e R s m args below meth c H1 locs1 cells slots Q (F0 m (pc + 3) ls (.int res :: rest))) : W p l e R s m args below meth c H locs cells slots Q (F0 m pc ls st0) :=
  cBackI (As := As) (va_runS (As := As) (rest := rest) S (hM H.size) cw ⟨cB_blind, cPre hK hP hD hS hA hZ _⟩ rfl hn hsz hst (lv_room hw) hdg hcs) hD hS hA kk
theorem cc_vS (S : CallFix p m c cc nL s args Wall own) (hM : MV l y wds rm D tys ws ws' As) (cw : CallB R s args own index y bytes maxL ret wds rm 0 0 n ∧ (Cond.static y).before args s = true) (hK : va_K D vwCl tys s) (hP : va_P D vwCl ws H) (hD : va_D A0 ws) (hS : va_S A0 s.heap H locs) (hA : ∀ q : Nat, s.heap.size ≤ q → A0 q) (hZ : cst A0 s)
    (hn : As.length = n) (hsz : ls.size = nL) (hst : st0 = As.reverse ++ rest) (hw : (rest.map fun v => v.category).sum ≤ 8) (hdg : decode cc pc = .ok (.invokestatic index, 3)) (hcs : cells ≤ R.cells ∧ slots ≤ R.slots)
    (kk : ∀ (H1 : Heap) (locs1 : List Loc), va_P D vwCl ws' H1 → va_D A0 ws' → va_S A0 s.heap H1 locs1 → W p l e R s m args below meth c H1 locs1 cells slots Q (F0 m (pc + 3) ls rest)) : W p l e R s m args below meth c H locs cells slots Q (F0 m pc ls st0) :=
  cBackV (As := As) (va_runS (As := As) (rest := rest) S (hM H.size) cw ⟨cB_blind, cPre hK hP hD hS hA hZ _⟩ rfl hn hsz hst (lv_room hw) hdg hcs) hD hS hA kk
theorem cc_iSN (S : CallFix p m c cc nL s args Wall own) (hM : MI l y wds rm D tys ws ws' As res) (cw : va_CN R s args own index y host bytes maxL ret wds rm 0 0 n ∧ (Cond.static y).before args s = true ∧ True) (hK : va_K D vwCl tys s) (hP : va_P D vwCl ws H) (hD : va_D A0 ws) (hS : va_S A0 s.heap H locs) (hA : ∀ q : Nat, s.heap.size ≤ q → A0 q) (hZ : cst A0 s)
    (hn : As.length = n) (hsz : ls.size = nL) (hst : st0 = As.reverse ++ rest) (hw : (rest.map fun v => v.category).sum ≤ 8) (hdg : decode cc pc = .ok (.invokestatic index, 3)) (hcs : cells ≤ R.cells ∧ slots ≤ R.slots)
    (kk : ∀ (H1 : Heap) (locs1 : List Loc), va_P D vwCl ws' H1 → va_D A0 ws' → va_S A0 s.heap H1 locs1 → W p l e R s m args below meth c H1 locs1 cells slots Q (F0 m (pc + 3) ls (.int res :: rest))) : W p l e R s m args below meth c H locs cells slots Q (F0 m pc ls st0) :=
  cBackI (As := As) (va_runSN (As := As) (rest := rest) S (hM H.size) cw ⟨cB_blind, cPre hK hP hD hS hA hZ _⟩ rfl hn hsz hst (lv_room hw) hdg hcs) hD hS hA kk
/-- a method's end with an int -/
theorem cc_ret {v : Int32} {ty : FieldType} (hx : p.tables.exec = Jvm.exec) (hb : c.code = cc) (hr : meth.sig.returnType = some ty) (hn : narrow ty (.int v) = .int v) (hQ : Q = MQ below (va_Qi (S := Unit) (fun r _ => res = r) (fun _ t => cE D tys ws' A0 t) A0) args s 0 0 A0) (hK : va_K D vwCl tys s) (hP : va_P D vwCl ws' H) (hD : va_D A0 ws') (hS : va_S A0 s.heap H locs) (hv : res = v) (hdg : decode cc pc = .ok (.ireturn, 1)) (hlocks : meth.locks = false) : W p l e R s m args below meth c H locs 0 0 Q (F0 m pc ls [.int v]) := by
  subst hQ
  exact W.zret hx hb hr hn (fun t ht hW => ⟨⟨v, (), rfl, hv, by rw [ht]; exact hP, va_K.moved hW.alike hK, hD⟩, hS.F ht⟩) hS.2.2 hdg hlocks
theorem cc_vret (hx : p.tables.exec = Jvm.exec) (hb : c.code = cc) (hr : meth.sig.returnType = none) (hQ : Q = MQ below (va_Qv (S := Unit) (fun _ => True) (fun _ t => cE D tys ws' A0 t) A0) args s 0 0 A0) (hK : va_K D vwCl tys s) (hP : va_P D vwCl ws' H) (hD : va_D A0 ws') (hS : va_S A0 s.heap H locs) (hdg : decode cc pc = .ok (.return_, 1)) (hlocks : meth.locks = false) : W p l e R s m args below meth c H locs 0 0 Q (F0 m pc ls []) := by
  subst hQ
  exact W.vret hx hb hr (fun t ht hW => ⟨⟨(), rfl, trivial, by rw [ht]; exact hP, va_K.moved hW.alike hK, hD⟩, hS.F ht⟩) hS.2.2 hdg hlocks
/-- a call of a method that throws, in one that doesn't catch -/
theorem cX_back {E : String} {Qc : Array Value → State → Outcome → State → Prop} (hAe : va_A ws s.heap.size = A0) (hQ : Q = vx_MQ below Qc (cXC D tys ws ws' E s.heap.size) args s 1 6 A0) (hout : ∀ x ∈ c.exceptionTable.toList, False) (hlocks : meth.locks = false) (hK : va_K D vwCl tys s) {E1 : String} (hE : E = E1) {H1 : Heap} {locs1 : List Loc} (hP : va_P D vwCl ws' H1) (hD : va_D A0 ws') (hS : va_S A0 s.heap H1 locs1) (hz : s.heap.size + 1 ≤ H1.size) {ce : Cell} {q : Addr} (hcell : H1[q]? = some ce) (hv : ce.vm = .none) (hcl : s.vm.findClass E1 = some ce.cls) (hc : cells ≤ 1) (hs : slots ≤ 6) :
    vx_W p l e R s m args below meth c H1 locs1 cells slots Q (F0 m pc ls rest) q := by
  subst hAe
  subst hQ
  exact vx_out (fun x hx => (hout x hx).elim) hlocks hcell hv hcl (fun t ht hvm => ⟨(), trivial, ⟨⟨hE, by rw [ht]; exact hP, va_K.moved hvm hK, hD⟩, by rw [ht]; exact hz⟩, hS.F ht⟩) hS.2.2 hc hs
theorem cX_iV {E : String} (S : CallFix p m c cc nL s args Wall own) (hM : XI l y wds rm D tys ws ws' (.ref b :: As) E) (cw : CallW R s args own C index y bytes maxL ret wds rm 1 6 n) (hK : va_K D vwCl tys s) (hP : va_P D vwCl ws H) (hD : va_D A0 ws) (hS : va_S A0 s.heap H locs) (hA : ∀ q : Nat, s.heap.size ≤ q → A0 q) (hZ : cst A0 s) {ci q0 N : Nat} {T : u_T} {fs : List Value} (hci : vwCl[ci]? = some (C, T, N)) (hq : ws[q0]? = some (b, .inr (ci, fs)))
    (hn : As.length = n) (hsz : ls.size = nL) (hst : st0 = As.reverse ++ .ref b :: rest) (hw : (rest.map fun v => v.category).sum ≤ 8) (hdg : decode cc pc = .ok (.invokevirtual index, 3)) (hcs : cells + 1 ≤ R.cells ∧ slots + 6 ≤ R.slots)
    (kx : ∀ (ce : Cell) (q9 : Addr) (H1 : Heap) (locs1 : List Loc), va_P D vwCl ws' H1 → va_D A0 ws' → va_S A0 s.heap H1 locs1 → s.heap.size + 1 ≤ H1.size → H1[q9]? = some ce → ce.vm = .none → s.vm.findClass E = some ce.cls → vx_W p l e R s m args below meth c H1 locs1 (cells + 1) (slots + 6) Q (F0 m pc ls rest) q9) : W p l e R s m args below meth c H locs cells slots Q (F0 m pc ls st0) := by
  have hF := cF hD hS hA
  refine vx_calli (vx_runV (As := As) (rest := rest) S (hM H.size) cw ⟨cB_blind, va_recv hK hP hci hq, cPre hK hP hD hS hA hZ _⟩ rfl hn hsz hst (lv_room hw) hdg hcs) hS (fun q _ h => hF q h) hF (fun q _ h => hF q h) (fun E' ce q9 u t H1 locs1 ht hvm _ hB hz1 hk1 hS1 h1 h2 h3 => ?_) (fun r u t H1 locs1 ht hvm hpost => hpost.elim)
  obtain ⟨⟨rfl, hP1, hK1, hD1⟩, hz9⟩ := hB
  rw [ht] at hP1 hz9
  exact kx ce q9 H1 locs1 hP1 (hD1.weaken (fun _ q _ h => hF q.1 h)) hS1 (Nat.le_trans (Nat.add_le_add_right hS.1 1) hz9) h1 h2 h3
theorem cX_vV {E : String} (S : CallFix p m c cc nL s args Wall own) (hM : XV l y wds rm D tys ws ws' (.ref b :: As) E) (cw : CallW R s args own C index y bytes maxL ret wds rm 1 6 n) (hK : va_K D vwCl tys s) (hP : va_P D vwCl ws H) (hD : va_D A0 ws) (hS : va_S A0 s.heap H locs) (hA : ∀ q : Nat, s.heap.size ≤ q → A0 q) (hZ : cst A0 s) {ci q0 N : Nat} {T : u_T} {fs : List Value} (hci : vwCl[ci]? = some (C, T, N)) (hq : ws[q0]? = some (b, .inr (ci, fs)))
    (hn : As.length = n) (hsz : ls.size = nL) (hst : st0 = As.reverse ++ .ref b :: rest) (hw : (rest.map fun v => v.category).sum ≤ 8) (hdg : decode cc pc = .ok (.invokevirtual index, 3)) (hcs : cells + 1 ≤ R.cells ∧ slots + 6 ≤ R.slots)
    (kx : ∀ (ce : Cell) (q9 : Addr) (H1 : Heap) (locs1 : List Loc), va_P D vwCl ws' H1 → va_D A0 ws' → va_S A0 s.heap H1 locs1 → s.heap.size + 1 ≤ H1.size → H1[q9]? = some ce → ce.vm = .none → s.vm.findClass E = some ce.cls → vx_W p l e R s m args below meth c H1 locs1 (cells + 1) (slots + 6) Q (F0 m pc ls rest) q9) : W p l e R s m args below meth c H locs cells slots Q (F0 m pc ls st0) := by
  have hF := cF hD hS hA
  refine vx_callv (vx_runV (As := As) (rest := rest) S (hM H.size) cw ⟨cB_blind, va_recv hK hP hci hq, cPre hK hP hD hS hA hZ _⟩ rfl hn hsz hst (lv_room hw) hdg hcs) hS (fun q _ h => hF q h) hF (fun q _ h => hF q h) (fun E' ce q9 u t H1 locs1 ht hvm _ hB hz1 hk1 hS1 h1 h2 h3 => ?_) (fun u t H1 locs1 ht hvm hpost => hpost.elim)
  obtain ⟨⟨rfl, hP1, hK1, hD1⟩, hz9⟩ := hB
  rw [ht] at hP1 hz9
  exact kx ce q9 H1 locs1 hP1 (hD1.weaken (fun _ q _ h => hF q.1 h)) hS1 (Nat.le_trans (Nat.add_le_add_right hS.1 1) hz9) h1 h2 h3
theorem cX_vS {E : String} (S : CallFix p m c cc nL s args Wall own) (hM : XV l y wds rm D tys ws ws' As E) (cw : CallB R s args own index y bytes maxL ret wds rm 1 6 n ∧ (Cond.static y).before args s = true) (hK : va_K D vwCl tys s) (hP : va_P D vwCl ws H) (hD : va_D A0 ws) (hS : va_S A0 s.heap H locs) (hA : ∀ q : Nat, s.heap.size ≤ q → A0 q) (hZ : cst A0 s)
    (hn : As.length = n) (hsz : ls.size = nL) (hst : st0 = As.reverse ++ rest) (hw : (rest.map fun v => v.category).sum ≤ 8) (hdg : decode cc pc = .ok (.invokestatic index, 3)) (hcs : cells + 1 ≤ R.cells ∧ slots + 6 ≤ R.slots)
    (kx : ∀ (ce : Cell) (q9 : Addr) (H1 : Heap) (locs1 : List Loc), va_P D vwCl ws' H1 → va_D A0 ws' → va_S A0 s.heap H1 locs1 → s.heap.size + 1 ≤ H1.size → H1[q9]? = some ce → ce.vm = .none → s.vm.findClass E = some ce.cls → vx_W p l e R s m args below meth c H1 locs1 (cells + 1) (slots + 6) Q (F0 m pc ls rest) q9) : W p l e R s m args below meth c H locs cells slots Q (F0 m pc ls st0) := by
  have hF := cF hD hS hA
  refine vx_callv (vx_runS (As := As) (rest := rest) S (hM H.size) cw ⟨cB_blind, cPre hK hP hD hS hA hZ _⟩ rfl hn hsz hst (lv_room hw) hdg hcs) hS (fun q _ h => hF q h) hF (fun q _ h => hF q h) (fun E' ce q9 u t H1 locs1 ht hvm _ hB hz1 hk1 hS1 h1 h2 h3 => ?_) (fun u t H1 locs1 ht hvm hpost => hpost.elim)
  obtain ⟨⟨rfl, hP1, hK1, hD1⟩, hz9⟩ := hB
  rw [ht] at hP1 hz9
  exact kx ce q9 H1 locs1 hP1 (hD1.weaken (fun _ q _ h => hF q.1 h)) hS1 (Nat.le_trans (Nat.add_le_add_right hS.1 1) hz9) h1 h2 h3
theorem cxt.words {cls : String} (h : cxt s) (hc : cls ∈ castL) : ∀ w ∈ declL.map Cond.declares ++ [Cond.castable cls cls], w.before args s = true := by
  intro w hw
  rcases List.mem_append.mp hw with q | q
  · obtain ⟨y, hy, rfl⟩ := List.mem_map.mp q
    exact va_Nw.use rfl (h.1 y hy)
  · rw [List.mem_singleton.mp q]
    exact va_Nw.use rfl (h.2.1 cls hc)
/-- new X(text), thrown: nothing of the world is changed -/
theorem cX_throw {cls text : String} {names : List String} {ik is ic sa : Nat} {Qc : Array Value → State → Outcome → State → Prop} (hx : p.tables.exec = Jvm.exec) (hb : c.code = cc) (hl0 : l.stackTraces = false) (hown : s.vm.findClass own = some m.cls) (hcls : Bundle.fit cls = true) (hnames : ∀ n ∈ names, Bundle.fit n = true)
    (hk : (Cond.classLink own ik cls).before args s = true) (hini : (Cond.initialized cls).before args s = true) (hstr : vk_R own is text sa s) (hat : ∀ w ∈ (vx_atS own ic cls names).filter goodWord, w.before args s = true) (hrest : ∀ w ∈ (vx_atS own ic cls names).filter (fun w => !goodWord w), w ∈ declL.map Cond.declares ++ [Cond.castable cls cls]) (hcx : cxt s) (hcast : cls ∈ castL) (hgood : ∀ w ∈ Cond.classLink own ik cls :: Cond.initialized cls :: vx_atS own ic cls names, vx_ot w = true)
    (hAe : va_A ws s.heap.size = A0) (hUN : vx_Zq Bundle.tN "UNASSIGNED_STACK" Bundle.steD A0 s s.heap ∧ vx_Zq Bundle.tN "SUPPRESSED_SENTINEL" Bundle.listD A0 s s.heap) (hQ : Q = vx_MQ below Qc (cXC D tys ws ws' cls s.heap.size) args s 1 6 A0) (hout : ∀ x ∈ c.exceptionTable.toList, False) (hlocks : meth.locks = false) (hK : va_K D vwCl tys s) (hP : va_P D vwCl ws' H) (hD : va_D A0 ws') (hS : va_S A0 s.heap H locs) (hsize : ls.size = c.maxLocals)
    (d0 : decode cc pc = .ok (.new ik, 3)) (d3 : decode cc (pc + 3) = .ok (.dup, 1)) (d4 : decode cc (pc + 4) = .ok (.ldc_w is, 3)) (d7 : decode cc (pc + 7) = .ok (.invokespecial ic, 3)) (d10 : decode cc (pc + 10) = .ok (.athrow, 1))
    (hRf : names.length + 3 < R.frames) (hRl : (rest.map fun v => v.category).sum + (13 * (names.length + 1) + 43) ≤ R.locals) (hRc : 1 ≤ R.cells) (hRs : 6 ≤ R.slots) : W p l e R s m args below meth c H locs 0 0 Q (F0 m pc ls rest) := by
  subst hAe
  subst hQ
  refine vx_throwSW (names := names) (mc := 1) (ms := 6) hx hb hl0 hown hcls hnames hk hini hstr (vx_hat hat hrest (fun w hw => cxt.words hcx hcast w hw)) hgood hUN.1 hUN.2 hS hsize d0 d3 d4 d7 d10 (fun x hx => (hout x hx).elim) hRf hRl (by omega) (by omega) hlocks (fun t hvm hz hq => ?_) hS.2.2 (Nat.le_refl _) (Nat.le_refl _)
  exact ⟨(), trivial, ⟨⟨rfl, hP.kept (fun k q hk => hq q.1 (hP k q hk).lt), va_K.moved hvm hK, hD⟩, Nat.le_trans (Nat.add_le_add_right hS.1 1) hz⟩, Nat.le_trans hS.1 (Nat.le_of_succ_le hz), fun q h1 h2 => (hq q (Nat.lt_of_lt_of_le h1 hS.1)).trans (hS.2.1 q h1 h2)⟩
end CBASE
/-! constructors: the world grows; an old world's cells stay beside -/
theorem cls_int {D : va_G} {tys : List (ClassId × FieldType)} {s : State} (hK : va_K D vwCl tys s) (i j : Nat) {c1 c2 : ClassId} (h1 : tys[i]? = some (c1, .int)) (h2 : tys[j]? = some (c2, .int)) : c1 = c2 := by
  have a : s.vm.findClass ("[" ++ FieldType.int.toString) = some c1 := (hK.2 i _ h1).2
  have b : s.vm.findClass ("[" ++ FieldType.int.toString) = some c2 := (hK.2 j _ h2).2
  exact Option.some.inj (a.symm.trans b)
theorem cls_bool {D : va_G} {tys : List (ClassId × FieldType)} {s : State} (hK : va_K D vwCl tys s) (i j : Nat) {c1 c2 : ClassId} (h1 : tys[i]? = some (c1, .boolean)) (h2 : tys[j]? = some (c2, .boolean)) : c1 = c2 := by
  have a : s.vm.findClass ("[" ++ FieldType.boolean.toString) = some c1 := (hK.2 i _ h1).2
  have b : s.vm.findClass ("[" ++ FieldType.boolean.toString) = some c2 := (hK.2 j _ h2).2
  exact Option.some.inj (a.symm.trans b)
/-- a constructor of the object at h0: what it makes lies at the addresses ad, the object itself at ad 0 -/
def MC (l : Launch) (y : MethodName) (wds : List Cond) (rm : Room) (D : va_G) (tys : List (ClassId × FieldType)) (ws : va_W) (wf : (Nat → Nat) → va_W) (h0 : Nat) (mc ms : Nat) : Prop :=
  ∀ sz : Nat, Met l y wds rm (va_Pc [.ref h0] (cB D tys ws sz)) (va_Qv (S := Nat → Nat) (fun ad => ad 0 = h0) (fun ad t => cE D tys (wf ad) (va_A ws sz) t) (va_A ws sz)) mc ms (va_A ws sz)
section CCTOR
variable {p : Program} {l : Launch} {e : Env} {R : Room} {s : State} {m : MethodId} {args : Array Value} {below : List Frame} {meth : Method} {c : Code} {H : Heap} {locs : List Loc} {cells slots : Nat} {Q : State → Prop}
variable {cc : ByteArray} {pc nL index maxL : Nat} {ls : Array Slot} {rest st0 : List Value} {D : va_G} {tys : List (ClassId × FieldType)} {ws wc wr : va_W} {wf : (Nat → Nat) → va_W} {A0 : Nat → Prop} {y : MethodName} {bytes : ByteArray} {wds : List Cond} {rm : Room} {own host : String} {b : Nat}
theorem cBackC {mc ms : Nat} {a : Array Value} (hr : va_Run p l e R s m args below meth c H locs cells slots mc ms (F0 m pc ls st0) rest (va_Qv (S := Nat → Nat) (fun ad => ad 0 = b) (fun ad t => cE D tys (wf ad) (va_A wc H.size) t) (va_A wc H.size) a) (va_A wc H.size)) (hP : va_P D vwCl ws H) (hD : va_D A0 ws) (hS : va_S A0 s.heap H locs) (hA : ∀ q : Nat, s.heap.size ≤ q → A0 q)
    (isC isR : List Nat) (hC : isC.map (fun i => ws[i]?) = wc.map some) (hR : isR.map (fun i => ws[i]?) = wr.map some) (hn : va_nd isR = true) (hdis : ∀ i ∈ isR, i ∉ isC)
    (kk : ∀ (ad : Nat → Nat) (H1 : Heap) (locs1 : List Loc), ad 0 = b → va_P D vwCl (wr ++ wf ad) H1 → va_D A0 (wr ++ wf ad) → va_S A0 s.heap H1 locs1 → W p l e R s m args below meth c H1 locs1 (cells + mc) (slots + ms) Q (F0 m (pc + 3) ls rest)) : W p l e R s m args below meth c H locs cells slots Q (F0 m pc ls st0) := by
  have hF := va_free (wc := wc) hD hS hA isC hC
  refine va_callv hr hS (fun q _ h => hF q h) hF (fun u t H1 locs1 ht hvm hpost hB hz1 hk1 hS1 => ?_)
  obtain ⟨hP1, hK1, hD1⟩ := hB
  rw [ht] at hP1
  obtain ⟨h1, h2⟩ := va_join hP hD isC isR hC hR hn hdis hk1 hF hP1 hD1
  exact kk u H1 locs1 hpost h1 h2 hS1
theorem cc_cI {mc ms : Nat} (S : CallFix p m c cc nL s args Wall own) (hM : MC l y wds rm D tys wc wf b mc ms) (cw : CallB R s args own index y bytes maxL none wds rm mc ms 0 ∧ y.name = "<init>" ∧ (Cond.instanceMethod y).before args s = true) (hK : va_K D vwCl tys s) (hP : va_P D vwCl ws H) (hD : va_D A0 ws) (hS : va_S A0 s.heap H locs) (hA : ∀ q : Nat, s.heap.size ≤ q → A0 q) (hZ : cst A0 s)
    (isC isR : List Nat) (hC : isC.map (fun i => ws[i]?) = wc.map some) (hC2 : isC.filterMap (fun i => ws[i]?) = wc) (hC3 : va_nd isC = true) (hR : isR.map (fun i => ws[i]?) = wr.map some) (hn : va_nd isR = true) (hdis : ∀ i ∈ isR, i ∉ isC)
    (hsz : ls.size = nL) (hst : st0 = .ref b :: rest) (hw : (rest.map fun v => v.category).sum ≤ 8) (hdg : decode cc pc = .ok (.invokespecial index, 3)) (hcs : cells + mc ≤ R.cells ∧ slots + ms ≤ R.slots)
    (kk : ∀ (ad : Nat → Nat) (H1 : Heap) (locs1 : List Loc), ad 0 = b → va_P D vwCl (wr ++ wf ad) H1 → va_D A0 (wr ++ wf ad) → va_S A0 s.heap H1 locs1 → W p l e R s m args below meth c H1 locs1 (cells + mc) (slots + ms) Q (F0 m (pc + 3) ls rest)) : W p l e R s m args below meth c H locs cells slots Q (F0 m pc ls st0) :=
  cBackC (va_runI (As := []) (rest := rest) S (hM H.size) cw ⟨cB_blind, cPre hK (hP.sub isC hC2) (hD.sub isC hC3 hC) hS hA hZ _⟩ rfl rfl hsz hst (lv_room hw) hdg hcs) hP hD hS hA isC isR hC hR hn hdis kk
theorem cc_cIN {mc ms : Nat} (S : CallFix p m c cc nL s args Wall own) (hM : MC l y wds rm D tys wc wf b mc ms) (cw : va_CN R s args own index y host bytes maxL none wds rm mc ms 0 ∧ y.name = "<init>" ∧ (Cond.instanceMethod y).before args s = true) (hK : va_K D vwCl tys s) (hP : va_P D vwCl ws H) (hD : va_D A0 ws) (hS : va_S A0 s.heap H locs) (hA : ∀ q : Nat, s.heap.size ≤ q → A0 q) (hZ : cst A0 s)
    (isC isR : List Nat) (hC : isC.map (fun i => ws[i]?) = wc.map some) (hC2 : isC.filterMap (fun i => ws[i]?) = wc) (hC3 : va_nd isC = true) (hR : isR.map (fun i => ws[i]?) = wr.map some) (hn : va_nd isR = true) (hdis : ∀ i ∈ isR, i ∉ isC)
    (hsz : ls.size = nL) (hst : st0 = .ref b :: rest) (hw : (rest.map fun v => v.category).sum ≤ 8) (hdg : decode cc pc = .ok (.invokespecial index, 3)) (hcs : cells + mc ≤ R.cells ∧ slots + ms ≤ R.slots)
    (kk : ∀ (ad : Nat → Nat) (H1 : Heap) (locs1 : List Loc), ad 0 = b → va_P D vwCl (wr ++ wf ad) H1 → va_D A0 (wr ++ wf ad) → va_S A0 s.heap H1 locs1 → W p l e R s m args below meth c H1 locs1 (cells + mc) (slots + ms) Q (F0 m (pc + 3) ls rest)) : W p l e R s m args below meth c H locs cells slots Q (F0 m pc ls st0) :=
  cBackC (va_runIN (As := []) (rest := rest) S (hM H.size) cw ⟨cB_blind, cPre hK (hP.sub isC hC2) (hD.sub isC hC3 hC) hS hA hZ _⟩ rfl rfl hsz hst (lv_room hw) hdg hcs) hP hD hS hA isC isR hC hR hn hdis kk
theorem cc_cret {mc ms : Nat} {ws' : va_W} (ad : Nat → Nat) (hx : p.tables.exec = Jvm.exec) (hb : c.code = cc) (hr : meth.sig.returnType = none) (hQ : Q = MQ below (va_Qv (S := Nat → Nat) (fun ad => ad 0 = b) (fun ad t => cE D tys (wf ad) A0 t) A0) args s mc ms A0) (hK : va_K D vwCl tys s) (had : ad 0 = b) (hw : wf ad = ws') (hP : va_P D vwCl ws' H) (hD : va_D A0 ws') (hS : va_S A0 s.heap H locs) (hdg : decode cc pc = .ok (.return_, 1)) (hlocks : meth.locks = false) : W p l e R s m args below meth c H locs mc ms Q (F0 m pc ls []) := by
  subst hQ
  subst hw
  exact W.vret hx hb hr (fun t ht hW => ⟨⟨ad, rfl, had, by rw [ht]; exact hP, va_K.moved hW.alike hK, hD⟩, hS.F ht⟩) hS.2.2 hdg hlocks
end CCTOR
