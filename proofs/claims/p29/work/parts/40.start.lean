/-! THE CLAIM OUT OF ONE WALK OF THE LAW'S BODY. Your part is whole_start (and what it stands on); all else here is the same for every law, but numbers. -/
def R_law : String := "RedcrossGantryLaw"
def lw_P (b : Addr) (xs : List Int32) (args : Array Value) (s : State) : Prop := args = #[.ref b] ∧ s.IntsAt b xs ∧ xs.length ≤ 260 ∧ (Jvm.Cond.and given_1 narrow_1).before args s = true
def lw_Q (_ : Array Value) (s : State) (o : Outcome) (t : State) : Prop := o = .returned (some (.int 1)) ∧ Framed s o t [] 125 1893
def lw_Z (below : List Frame) (a : Array Value) (s : State) : State → Prop := fun t => ∃ o, t.status = .running ∧ Ended t below o ∧ lw_Q a s o t
/-- the law's own end, with 1 on the stack, nothing written that was there before, its room as the claim has it -/
theorem lw_ret {p : Program} {l : Launch} {e : Env} {s : State} {m : MethodId} {below : List Frame} {meth : Method} {c : Code} {b : Nat} (hx : p.tables.exec = Jvm.exec) (hb : c.code = code) (hr : meth.sig.returnType = ret) (hlocks : meth.locks = false) {pc : Nat} {H : Heap} {ls : Array Slot} (hdg : decode code pc = .ok (.ireturn, 1)) : W p l e room_1 s m #[Value.ref b] below meth c H [] 125 1893 (lw_Z below #[Value.ref b] s) (F0 m pc ls [.int 1]) := by
  intro T hT X
  obtain ⟨fs, hret, hrun, hended, hW, hframe⟩ := X.leave (v := some (.int 1)) (hlocks := hlocks) (fun h => by rw [hr] at h; cases h)
  have hmeth' : T.vm.method? m = some meth := X.method'
  refine ⟨T.setFrames fs, ?_, .returned (some (.int 1)), hrun, hended, rfl, ⟨_, rfl⟩, hW, hframe⟩
  jvm_step X.here [X.here.top, hx, hb, hdg, hmeth', hr, ret, narrow_b1]
  (try refine ⟨rfl, ?_⟩); (try refine ⟨rfl, ?_⟩)
  first | (intro acts; rw [hret _ acts rfl rfl rfl]) | rw [hret _ _ rfl rfl rfl]
  exact Steps.refl _
/-- what holds at the law's entry: the machine, the code, the tables' words (any of lw_tbl by 'hts w (by decide +kernel)'), the script of L ints xs at the cell b, what the Statement gives of the start (any of its parts by flat_of_before) -/
def lw_At (p : Program) (s : State) (m : MethodId) (meth : Method) (c : Code) (b L : Nat) (xs : Nat → Int32) : Prop :=
  p.tables.exec = Jvm.exec ∧ c.code = code ∧ meth.sig.returnType = ret ∧ c.maxLocals = 6 ∧ s.vm.findClass R_law = some m.cls ∧ (∀ w ∈ lw_tbl, w.before #[Value.ref b] s = true) ∧ va_X b L xs s s.heap ∧ b < s.heap.size ∧ meth.locks = false ∧ (Jvm.Cond.and given_1 narrow_1).before #[Value.ref b] s = true
/-! a world at a state, and at another of the same numbers -/
theorem va_P_cons {D : va_G} {cl : List vw_C} {q : Nat × va_E} {ws : va_W} {H : Heap} : va_P D cl (q :: ws) H ↔ va_at D cl q H ∧ va_P D cl ws H := by
  constructor
  · intro h
    exact ⟨h 0 q rfl, fun k p hk => h (k + 1) p (by simpa using hk)⟩
  · rintro ⟨h1, h2⟩ k p hk
    cases k with
    | zero => cases hk; exact h1
    | succ k => exact h2 k p (by simpa using hk)
theorem va_at_sw {D : va_G} {cl : List vw_C} {a : Nat} {c : ClassId} {n : Nat} {f g : Nat → Int32} {H : Heap} (h : ∀ j : Nat, j < n → f j = g j) (hp : va_at D cl (a, .inl (c, n, .inl f)) H) : va_at D cl (a, .inl (c, n, .inl g)) H := by
  have e : vp_cell c (n, .inl f) = vp_cell c (n, .inl g) := by
    rw [vp_cell_i, vp_cell_i]
    unfold arrV
    congr 2
    funext j
    exact congrArg Value.int (h j.1 j.2)
  show H[a]? = some (vp_cell c (n, .inl g))
  rw [← e]
  exact hp
theorem va_D_sw {A : Nat → Prop} {ws ws' : va_W} (h : ws'.map (·.1) = ws.map (·.1)) (hD : va_D A ws) : va_D A ws' := by
  have hx : ∀ (k : Nat) (q : Nat × va_E), ws'[k]? = some q → ∃ q' : Nat × va_E, ws[k]? = some q' ∧ q'.1 = q.1 := by
    intro k q hk
    have h1 : (ws'.map (·.1))[k]? = some q.1 := by rw [List.getElem?_map, hk]; rfl
    rw [h, List.getElem?_map] at h1
    cases hw : ws[k]? with
    | none => rw [hw] at h1; cases h1
    | some q' =>
      rw [hw] at h1
      exact ⟨q', rfl, Option.some.inj h1⟩
  constructor
  · intro i j p q hp hq e
    obtain ⟨p', h1, e1⟩ := hx i p hp
    obtain ⟨q', h2, e2⟩ := hx j q hq
    exact hD.1 i j p' q' h1 h2 (by rw [e1, e2, e])
  · intro k q hk
    obtain ⟨q', h1, e1⟩ := hx k q hk
    rw [← e1]
    exact hD.2 k q' h1
theorem wC_sw {D : va_G} {cI cZ : ClassId} {ad : Nat → Nat} {u v : GS} {H : Heap} (h : geqb u v = true) (hP : va_P D vwCl (wC cI cZ ad u) H) : va_P D vwCl (wC cI cZ ad v) H := by
  simp only [geqb, Bool.and_eq_true, decide_eq_true_eq] at h
  obtain ⟨⟨⟨⟨⟨⟨⟨⟨⟨⟨⟨⟨⟨⟨⟨⟨⟨⟨⟨⟨⟨⟨⟨⟨⟨⟨⟨⟨⟨⟨⟨⟨z0, z1⟩, z2⟩, z3⟩, z4⟩, z5⟩, z6⟩, z7⟩, z8⟩, z9⟩, z10⟩, z11⟩, z12⟩, z13⟩, z14⟩, z15⟩, z16⟩, z17⟩, z18⟩, z19⟩, z20⟩, z21⟩, z22⟩, z23⟩, z24⟩, z25⟩, z26⟩, z27⟩, z28⟩, z29⟩, z30⟩, z31⟩, z32⟩ := h
  unfold wC at hP ⊢
  simp only [va_P_cons] at hP ⊢
  obtain ⟨h0, h1, h2, h3, h4, h5, h6, h7, h8, h9, h10, h11, h12, h13, h14, h15, h16, h17, h18, h19, h20, h21, h22, h23, h24, h25, h26, h27, h28, h29, h30, h31, h32, h33, h34, hn⟩ := hP
  exact ⟨by rw [← z0]; exact h0, by rw [← z4, ← z5, ← z6, ← z7]; exact h1, h2, by rw [← z13]; exact h3, h4, h5, by rw [← z22]; exact h6, h7, by rw [← z31]; exact h8, h9, va_at_sw (eqn_at z1) h10, va_at_sw (eqn_at z2) h11, va_at_sw (eqn_at z3) h12, va_at_sw (eqn_at z8) h13, va_at_sw (eqn_at z9) h14, va_at_sw (eqn_at z10) h15, va_at_sw (eqn_at z11) h16, va_at_sw (eqn_at z12) h17, va_at_sw (eqn_at z14) h18, va_at_sw (eqn_at z15) h19, va_at_sw (eqn_at z16) h20, va_at_sw (eqn_at z17) h21, va_at_sw (eqn_at z18) h22, va_at_sw (eqn_at z19) h23, va_at_sw (eqn_at z20) h24, va_at_sw (eqn_at z21) h25, va_at_sw (eqn_at z23) h26, va_at_sw (eqn_at z24) h27, va_at_sw (eqn_at z25) h28, va_at_sw (eqn_at z26) h29, va_at_sw (eqn_at z27) h30, va_at_sw (eqn_at z28) h31, va_at_sw (eqn_at z29) h32, va_at_sw (eqn_at z30) h33, va_at_sw (eqn_at z32) h34, hn⟩
theorem wC_swD {A : Nat → Prop} {cI cZ : ClassId} {ad : Nat → Nat} {u v : GS} (hD : va_D A (wC cI cZ ad u)) : va_D A (wC cI cZ ad v) := va_D_sw (ws := wC cI cZ ad u) rfl hD
theorem wD_sw {D : va_G} {cI cZ : ClassId} {ad : Nat → Nat} {o : Nat} {f : Nat → Int32} {u v : GS} {H : Heap} (h : geqb u v = true) (hP : va_P D vwCl (wD cI cZ ad o f u) H) : va_P D vwCl (wD cI cZ ad o f v) H := va_P_cons.mpr ⟨(va_P_cons.mp hP).1, wC_sw h (va_P_cons.mp hP).2⟩
theorem wD_swD {A : Nat → Prop} {cI cZ : ClassId} {ad : Nat → Nat} {o : Nat} {f : Nat → Int32} {u v : GS} (hD : va_D A (wD cI cZ ad o f u)) : va_D A (wD cI cZ ad o f v) := va_D_sw (ws := wD cI cZ ad o f u) rfl hD
theorem st_D {s : State} {args : Array Value} (hts : ∀ w ∈ Wall, w.before args s = true) : ∃ D : va_G, ∀ (k : Nat) (q : vw_C), vwCl[k]? = some q → u_Kn s q.1 q.2.1 q.2.2 (D.1 k) (D.2 k) := by
  have h1 : ∀ (k : Nat) (q : vw_C), vwCl[k]? = some q → ∃ (cC : ClassId) (iS : Nat → Nat), u_Kn s q.1 q.2.1 q.2.2 cC iS := by
    intro k q hq
    match k, hq with
    | 0, hq =>
      cases hq
      exact u_known hts iX0 (hts _ mw_192)
    | 1, hq =>
      cases hq
      exact u_known hts iX1 (hts _ mw_82)
    | 2, hq =>
      cases hq
      exact u_known hts iX2 (hts _ mw_151)
    | 3, hq =>
      cases hq
      exact u_known hts iX3 (hts _ mw_119)
    | 4, hq =>
      cases hq
      exact u_known hts iX4 (hts _ mw_173)
    | 5, hq =>
      cases hq
      exact u_known hts iX5 (hts _ mw_218)
    | 6, hq =>
      cases hq
      exact u_known hts iX6 (hts _ mw_137)
    | 7, hq =>
      cases hq
      exact u_known hts iX7 (hts _ mw_97)
    | 8, hq =>
      cases hq
      exact u_known hts iX8 (hts _ mw_45)
    | 9, hq =>
      cases hq
      exact u_known hts iX9 (hts _ mw_37)
    | k + 10, hq => simp [vwCl] at hq
  have h2 : ∀ k : Nat, ∃ x : ClassId × (Nat → Nat), ∀ q : vw_C, vwCl[k]? = some q → u_Kn s q.1 q.2.1 q.2.2 x.1 x.2 := by
    intro k
    cases hq : vwCl[k]? with
    | none => exact ⟨(0, fun _ => 0), fun q h => by cases h⟩
    | some q =>
      obtain ⟨cC, iS, h3⟩ := h1 k q hq
      exact ⟨(cC, iS), fun q' h' => by
        cases h'
        exact h3⟩
  exact ⟨(fun k => (Classical.choose (h2 k)).1, fun k => (Classical.choose (h2 k)).2), fun k q hq => Classical.choose_spec (h2 k) q hq⟩
theorem st_K {s : State} {args : Array Value} (hts : ∀ w ∈ Wall, w.before args s = true) : ∃ (D : va_G) (cI cZ : ClassId), va_K D vwCl [(cI, .int), (cZ, .boolean)] s := by
  obtain ⟨D, hKc⟩ := st_D hts
  obtain ⟨cI, kI, pI, i1, i2, i3⟩ := Cond.arrayClass_spec (type := .int) (show (Cond.arrayClass .int).holds args s none s [] = true from hts _ mw_79)
  obtain ⟨cZ, kZ, pZ, z1, z2, z3⟩ := Cond.arrayClass_spec (type := .boolean) (show (Cond.arrayClass .boolean).holds args s none s [] = true from hts _ mw_80)
  refine ⟨D, cI, cZ, hKc, fun k q hq => ?_⟩
  match k, hq with
  | 0, hq =>
    cases hq
    exact ⟨fun n z => ⟨fun k h => (by cases h), kI, i2, pI, i3⟩, i1⟩
  | 1, hq =>
    cases hq
    exact ⟨fun n z => ⟨fun k h => (by cases h), kZ, z2, pZ, z3⟩, z1⟩
  | k + 2, hq => simp at hq
set_option maxHeartbeats 4000000 in
set_option maxRecDepth 100000 in
theorem st_cst {s : State} {b : Nat} (hts0 : ∀ w ∈ lw_tbl, w.before #[Value.ref b] s = true) (hgv : (Jvm.Cond.and given_1 narrow_1).before #[Value.ref b] s = true) {cR : ClassId} (hcR : s.vm.findClass RX9 = some cR) : cst (fun q : Nat => s.heap.size ≤ q) s := by
  have hq := flat_of_before _ hgv
  have hA0 : ∀ a0 : Nat, a0 < s.heap.size → ¬ (fun q : Nat => s.heap.size ≤ q) a0 := fun a0 h => Nat.not_le.mpr h
  have E1 : ∀ j : Nat, j < 3 → (Term.elem (.static "RedcrossGantry$Traffic" "TRIES_IF_OPEN" "[I") (.int (Int32.ofNat j))).eval #[Value.ref b] s none [] s = some (.int (tioF j)) := by
    intro j hj
    rcases (show j = 0 ∨ j = 1 ∨ j = 2 by omega) with rfl | rfl | rfl
    · exact va_eqt (t := .elem (.static "RedcrossGantry$Traffic" "TRIES_IF_OPEN" "[I") (.int 0)) (z := 0) (hq _ (by decide +kernel))
    · exact va_eqt (t := .elem (.static "RedcrossGantry$Traffic" "TRIES_IF_OPEN" "[I") (.int 1)) (z := (-1)) (hq _ (by decide +kernel))
    · exact va_eqt (t := .elem (.static "RedcrossGantry$Traffic" "TRIES_IF_OPEN" "[I") (.int 2)) (z := 1) (hq _ (by decide +kernel))
  have l1 : (Term.length (.static "RedcrossGantry$Traffic" "TRIES_IF_OPEN" "[I")).eval #[Value.ref b] s none [] s = some (.int (Int32.ofNat 3)) := va_eqt (t := .length (.static "RedcrossGantry$Traffic" "TRIES_IF_OPEN" "[I")) (z := 3) (hq _ (by decide +kernel))
  obtain ⟨t1, e1, T1⟩ := va_Tof (tm := (.static "RedcrossGantry$Traffic" "TRIES_IF_OPEN" "[I")) (ty := .int) (N := 3) (f := fun j => .int (tioF j)) (A := (fun q : Nat => s.heap.size ≤ q)) (by decide) (hq _ (by decide +kernel)) l1 E1 hA0
  have Z1 : va_Z "RedcrossGantry$Traffic" "TRIES_IF_OPEN" "[I" (.ref t1) (fun q : Nat => s.heap.size ≤ q) s s.heap := va_Zref (hts0 _ (List.mem_of_getElem? (i := 740) (by decide +kernel))) (hts0 _ (List.mem_of_getElem? (i := 20) (by decide +kernel))) e1 hA0
  have E2 : ∀ j : Nat, j < 3 → (Term.elem (.static "RedcrossGantry$Traffic" "TRIES_IF_NOT_OPEN" "[I") (.int (Int32.ofNat j))).eval #[Value.ref b] s none [] s = some (.int (tinF j)) := by
    intro j hj
    rcases (show j = 0 ∨ j = 1 ∨ j = 2 by omega) with rfl | rfl | rfl
    · exact va_eqt (t := .elem (.static "RedcrossGantry$Traffic" "TRIES_IF_NOT_OPEN" "[I") (.int 0)) (z := (-1)) (hq _ (by decide +kernel))
    · exact va_eqt (t := .elem (.static "RedcrossGantry$Traffic" "TRIES_IF_NOT_OPEN" "[I") (.int 1)) (z := 1) (hq _ (by decide +kernel))
    · exact va_eqt (t := .elem (.static "RedcrossGantry$Traffic" "TRIES_IF_NOT_OPEN" "[I") (.int 2)) (z := 0) (hq _ (by decide +kernel))
  have l2 : (Term.length (.static "RedcrossGantry$Traffic" "TRIES_IF_NOT_OPEN" "[I")).eval #[Value.ref b] s none [] s = some (.int (Int32.ofNat 3)) := va_eqt (t := .length (.static "RedcrossGantry$Traffic" "TRIES_IF_NOT_OPEN" "[I")) (z := 3) (hq _ (by decide +kernel))
  obtain ⟨t2, e2, T2⟩ := va_Tof (tm := (.static "RedcrossGantry$Traffic" "TRIES_IF_NOT_OPEN" "[I")) (ty := .int) (N := 3) (f := fun j => .int (tinF j)) (A := (fun q : Nat => s.heap.size ≤ q)) (by decide) (hq _ (by decide +kernel)) l2 E2 hA0
  have Z2 : va_Z "RedcrossGantry$Traffic" "TRIES_IF_NOT_OPEN" "[I" (.ref t2) (fun q : Nat => s.heap.size ≤ q) s s.heap := va_Zref (hts0 _ (List.mem_of_getElem? (i := 742) (by decide +kernel))) (hts0 _ (List.mem_of_getElem? (i := 20) (by decide +kernel))) e2 hA0
  have E3 : ∀ j : Nat, j < 4 → (Term.elem (.static "RedcrossGantry$SpeedSigns" "WEATHER_LETS" "[I") (.int (Int32.ofNat j))).eval #[Value.ref b] s none [] s = some (.int (wlF j)) := by
    intro j hj
    rcases (show j = 0 ∨ j = 1 ∨ j = 2 ∨ j = 3 by omega) with rfl | rfl | rfl | rfl
    · exact va_eqt (t := .elem (.static "RedcrossGantry$SpeedSigns" "WEATHER_LETS" "[I") (.int 0)) (z := 120) (hq _ (by decide +kernel))
    · exact va_eqt (t := .elem (.static "RedcrossGantry$SpeedSigns" "WEATHER_LETS" "[I") (.int 1)) (z := 80) (hq _ (by decide +kernel))
    · exact va_eqt (t := .elem (.static "RedcrossGantry$SpeedSigns" "WEATHER_LETS" "[I") (.int 2)) (z := 60) (hq _ (by decide +kernel))
    · exact va_eqt (t := .elem (.static "RedcrossGantry$SpeedSigns" "WEATHER_LETS" "[I") (.int 3)) (z := 40) (hq _ (by decide +kernel))
  have l3 : (Term.length (.static "RedcrossGantry$SpeedSigns" "WEATHER_LETS" "[I")).eval #[Value.ref b] s none [] s = some (.int (Int32.ofNat 4)) := va_eqt (t := .length (.static "RedcrossGantry$SpeedSigns" "WEATHER_LETS" "[I")) (z := 4) (hq _ (by decide +kernel))
  obtain ⟨t3, e3, T3⟩ := va_Tof (tm := (.static "RedcrossGantry$SpeedSigns" "WEATHER_LETS" "[I")) (ty := .int) (N := 4) (f := fun j => .int (wlF j)) (A := (fun q : Nat => s.heap.size ≤ q)) (by decide) (hq _ (by decide +kernel)) l3 E3 hA0
  have Z3 : va_Z "RedcrossGantry$SpeedSigns" "WEATHER_LETS" "[I" (.ref t3) (fun q : Nat => s.heap.size ≤ q) s s.heap := va_Zref (hts0 _ (List.mem_of_getElem? (i := 770) (by decide +kernel))) (hts0 _ (List.mem_of_getElem? (i := 22) (by decide +kernel))) e3 hA0
  have s1 : (Cond.stringRef RX9 260 "there is none of that number").before #[Value.ref b] s = true := (hts0 _ (List.mem_of_getElem? (i := 360) (by decide +kernel)))
  obtain ⟨_, _, _, a1, _, _, _, _, _, r1⟩ := Cond.stringRef_spec hcR (show (Cond.stringRef RX9 260 "there is none of that number").holds #[Value.ref b] s none s [] = true from s1)
  have s2 : (Cond.stringRef RX9 267 "an argument is out of its range").before #[Value.ref b] s = true := (hts0 _ (List.mem_of_getElem? (i := 444) (by decide +kernel)))
  obtain ⟨_, _, _, a2, _, _, _, _, _, r2⟩ := Cond.stringRef_spec hcR (show (Cond.stringRef RX9 267 "an argument is out of its range").holds #[Value.ref b] s none s [] = true from s2)
  have s3 : (Cond.stringRef RX9 272 "that cannot be by now").before #[Value.ref b] s = true := (hts0 _ (List.mem_of_getElem? (i := 467) (by decide +kernel)))
  obtain ⟨_, _, _, a3, _, _, _, _, _, r3⟩ := Cond.stringRef_spec hcR (show (Cond.stringRef RX9 272 "that cannot be by now").holds #[Value.ref b] s none s [] = true from s3)
  have hcx : cxt s := ⟨List.forall_mem_cons.mpr ⟨va_Nw.of rfl (hts0 _ (List.mem_of_getElem? (i := 323) (by decide +kernel))), List.forall_mem_cons.mpr ⟨va_Nw.of rfl (hts0 _ (List.mem_of_getElem? (i := 325) (by decide +kernel))), List.forall_mem_cons.mpr ⟨va_Nw.of rfl (hts0 _ (List.mem_of_getElem? (i := 327) (by decide +kernel))), fun _ h => absurd h List.not_mem_nil⟩⟩⟩, List.forall_mem_cons.mpr ⟨va_Nw.of rfl (hts0 _ (List.mem_of_getElem? (i := 321) (by decide +kernel))), List.forall_mem_cons.mpr ⟨va_Nw.of rfl (hts0 _ (List.mem_of_getElem? (i := 437) (by decide +kernel))), List.forall_mem_cons.mpr ⟨va_Nw.of rfl (hts0 _ (List.mem_of_getElem? (i := 460) (by decide +kernel))), fun _ h => absurd h List.not_mem_nil⟩⟩⟩, fun _ h => absurd h List.not_mem_nil⟩
  have hn : ∀ q ∈ nestL, va_Nw (.methodLinkNest q.1 q.2.1 q.2.2 "RedcrossGantry") s := List.forall_mem_cons.mpr ⟨va_Nw.of rfl (hts0 _ (List.mem_of_getElem? (i := 46) (by decide +kernel))), List.forall_mem_cons.mpr ⟨va_Nw.of rfl (hts0 _ (List.mem_of_getElem? (i := 83) (by decide +kernel))), List.forall_mem_cons.mpr ⟨va_Nw.of rfl (hts0 _ (List.mem_of_getElem? (i := 152) (by decide +kernel))), List.forall_mem_cons.mpr ⟨va_Nw.of rfl (hts0 _ (List.mem_of_getElem? (i := 174) (by decide +kernel))), List.forall_mem_cons.mpr ⟨va_Nw.of rfl (hts0 _ (List.mem_of_getElem? (i := 193) (by decide +kernel))), List.forall_mem_cons.mpr ⟨va_Nw.of rfl (hts0 _ (List.mem_of_getElem? (i := 219) (by decide +kernel))), List.forall_mem_cons.mpr ⟨va_Nw.of rfl (hts0 _ (List.mem_of_getElem? (i := 235) (by decide +kernel))), List.forall_mem_cons.mpr ⟨va_Nw.of rfl (hts0 _ (List.mem_of_getElem? (i := 242) (by decide +kernel))), List.forall_mem_cons.mpr ⟨va_Nw.of rfl (hts0 _ (List.mem_of_getElem? (i := 253) (by decide +kernel))), List.forall_mem_cons.mpr ⟨va_Nw.of rfl (hts0 _ (List.mem_of_getElem? (i := 258) (by decide +kernel))), List.forall_mem_cons.mpr ⟨va_Nw.of rfl (hts0 _ (List.mem_of_getElem? (i := 262) (by decide +kernel))), List.forall_mem_cons.mpr ⟨va_Nw.of rfl (hts0 _ (List.mem_of_getElem? (i := 267) (by decide +kernel))), List.forall_mem_cons.mpr ⟨va_Nw.of rfl (hts0 _ (List.mem_of_getElem? (i := 412) (by decide +kernel))), List.forall_mem_cons.mpr ⟨va_Nw.of rfl (hts0 _ (List.mem_of_getElem? (i := 543) (by decide +kernel))), List.forall_mem_cons.mpr ⟨va_Nw.of rfl (hts0 _ (List.mem_of_getElem? (i := 729) (by decide +kernel))), List.forall_mem_cons.mpr ⟨va_Nw.of rfl (hts0 _ (List.mem_of_getElem? (i := 768) (by decide +kernel))), List.forall_mem_cons.mpr ⟨va_Nw.of rfl (hts0 _ (List.mem_of_getElem? (i := 514) (by decide +kernel))), List.forall_mem_cons.mpr ⟨va_Nw.of rfl (hts0 _ (List.mem_of_getElem? (i := 454) (by decide +kernel))), fun _ h => absurd h List.not_mem_nil⟩⟩⟩⟩⟩⟩⟩⟩⟩⟩⟩⟩⟩⟩⟩⟩⟩⟩
  have y1 : vx_Zq Bundle.tN "UNASSIGNED_STACK" Bundle.steD (fun q : Nat => s.heap.size ≤ q) s s.heap := vx_Zqof (hts0 _ (List.mem_of_getElem? (i := 346) (by decide +kernel))) (hts0 _ (List.mem_of_getElem? (i := 30) (by decide +kernel))) (hq (.isRef (.static "java/lang/Throwable" "UNASSIGNED_STACK" "[Ljava/lang/StackTraceElement;")) (by decide +kernel)) hA0
  have y2 : vx_Zq Bundle.tN "SUPPRESSED_SENTINEL" Bundle.listD (fun q : Nat => s.heap.size ≤ q) s s.heap := vx_Zqof (hts0 _ (List.mem_of_getElem? (i := 348) (by decide +kernel))) (hts0 _ (List.mem_of_getElem? (i := 30) (by decide +kernel))) (hq (.isRef (.static "java/lang/Throwable" "SUPPRESSED_SENTINEL" "Ljava/util/List;")) (by decide +kernel)) hA0
  exact ⟨hn, ⟨t1, Z1, T1⟩, ⟨t2, Z2, T2⟩, ⟨t3, Z3, T3⟩, ⟨y1, y2⟩, ⟨a1, vk_R.of s1 r1⟩, ⟨a2, vk_R.of s2 r2⟩, ⟨a3, vk_R.of s3 r3⟩, hcx⟩

