section
-- ===== PART A: goes FIRST, ahead of the names: the tables' words, and 'selects' of the private methods out of them =====
/-- a private method of a class that the tables say can be made, by its rows of tables_1 -/
def lw_okq (q : MethodName × Nat) : Prop := (q.1.cls ≠ "java/lang/invoke/MethodHandle" ∧ q.1.cls ≠ "java/lang/invoke/VarHandle") ∧ Cond.instantiable q.1.cls q.2 ∈ tables_1 ∧ Cond.privateMethod q.1 ∈ tables_1 ∧ Cond.instanceMethod q.1 ∈ tables_1
theorem lw_p0 : lw_okq (⟨"RedcrossGantry$Bookings", "tellCrossesOf", "(I[I)V"⟩, 6) := ⟨⟨by decide +kernel, by decide +kernel⟩, List.mem_of_getElem? (i := 174) (by decide +kernel), List.mem_of_getElem? (i := 237) (by decide +kernel), List.mem_of_getElem? (i := 238) (by decide +kernel)⟩
theorem lw_p1 : lw_okq (⟨"java/lang/Throwable", "fillInStackTrace", "(I)Ljava/lang/Throwable;"⟩, 6) := ⟨⟨by decide +kernel, by decide +kernel⟩, List.mem_of_getElem? (i := 340) (by decide +kernel), List.mem_of_getElem? (i := 338) (by decide +kernel), List.mem_of_getElem? (i := 339) (by decide +kernel)⟩
theorem lw_p2 : lw_okq (⟨"RedcrossGantry", "setLaneSigns", "()V"⟩, 10) := ⟨⟨by decide +kernel, by decide +kernel⟩, List.mem_of_getElem? (i := 19) (by decide +kernel), List.mem_of_getElem? (i := 370) (by decide +kernel), List.mem_of_getElem? (i := 371) (by decide +kernel)⟩
theorem lw_p3 : lw_okq (⟨"RedcrossGantry", "wayBetween", "(II)I"⟩, 10) := ⟨⟨by decide +kernel, by decide +kernel⟩, List.mem_of_getElem? (i := 19) (by decide +kernel), List.mem_of_getElem? (i := 539) (by decide +kernel), List.mem_of_getElem? (i := 540) (by decide +kernel)⟩
theorem lw_p4 : lw_okq (⟨"RedcrossGantry", "minutesThrough", "(I)I"⟩, 10) := ⟨⟨by decide +kernel, by decide +kernel⟩, List.mem_of_getElem? (i := 19) (by decide +kernel), List.mem_of_getElem? (i := 543) (by decide +kernel), List.mem_of_getElem? (i := 544) (by decide +kernel)⟩
theorem lw_p5 : lw_okq (⟨"RedcrossGantry$Traffic", "heldAt", "(I)I"⟩, 7) := ⟨⟨by decide +kernel, by decide +kernel⟩, List.mem_of_getElem? (i := 27) (by decide +kernel), List.mem_of_getElem? (i := 586) (by decide +kernel), List.mem_of_getElem? (i := 587) (by decide +kernel)⟩
theorem lw_p6 : lw_okq (⟨"RedcrossGantry$Bookings", "areInThreeLanes", "(III)Z"⟩, 6) := ⟨⟨by decide +kernel, by decide +kernel⟩, List.mem_of_getElem? (i := 174) (by decide +kernel), List.mem_of_getElem? (i := 647) (by decide +kernel), List.mem_of_getElem? (i := 648) (by decide +kernel)⟩
theorem lw_p7 : lw_okq (⟨"RedcrossGantry$Bookings", "doMeet", "(III)Z"⟩, 6) := ⟨⟨by decide +kernel, by decide +kernel⟩, List.mem_of_getElem? (i := 174) (by decide +kernel), List.mem_of_getElem? (i := 651) (by decide +kernel), List.mem_of_getElem? (i := 652) (by decide +kernel)⟩
theorem lw_p8 : lw_okq (⟨"RedcrossGantry", "comeToNextMinute", "()V"⟩, 10) := ⟨⟨by decide +kernel, by decide +kernel⟩, List.mem_of_getElem? (i := 19) (by decide +kernel), List.mem_of_getElem? (i := 688) (by decide +kernel), List.mem_of_getElem? (i := 689) (by decide +kernel)⟩
theorem lw_p9 : lw_okq (⟨"RedcrossGantry", "movePatrols", "()V"⟩, 10) := ⟨⟨by decide +kernel, by decide +kernel⟩, List.mem_of_getElem? (i := 19) (by decide +kernel), List.mem_of_getElem? (i := 692) (by decide +kernel), List.mem_of_getElem? (i := 693) (by decide +kernel)⟩
theorem lw_p10 : lw_okq (⟨"RedcrossGantry", "endWorkOf", "(I)V"⟩, 10) := ⟨⟨by decide +kernel, by decide +kernel⟩, List.mem_of_getElem? (i := 19) (by decide +kernel), List.mem_of_getElem? (i := 696) (by decide +kernel), List.mem_of_getElem? (i := 697) (by decide +kernel)⟩
theorem lw_p11 : lw_okq (⟨"RedcrossGantry$Traffic", "goOnFrom", "(II[I)V"⟩, 7) := ⟨⟨by decide +kernel, by decide +kernel⟩, List.mem_of_getElem? (i := 27) (by decide +kernel), List.mem_of_getElem? (i := 708) (by decide +kernel), List.mem_of_getElem? (i := 709) (by decide +kernel)⟩
theorem lw_p12 : lw_okq (⟨"RedcrossGantry$Traffic", "mostThatGoOn", "(II)I"⟩, 7) := ⟨⟨by decide +kernel, by decide +kernel⟩, List.mem_of_getElem? (i := 27) (by decide +kernel), List.mem_of_getElem? (i := 713) (by decide +kernel), List.mem_of_getElem? (i := 714) (by decide +kernel)⟩
theorem lw_p13 : lw_okq (⟨"RedcrossGantry$Traffic", "placeToGoTo", "(II[I)I"⟩, 7) := ⟨⟨by decide +kernel, by decide +kernel⟩, List.mem_of_getElem? (i := 27) (by decide +kernel), List.mem_of_getElem? (i := 718) (by decide +kernel), List.mem_of_getElem? (i := 719) (by decide +kernel)⟩
theorem lw_p14 : lw_okq (⟨"RedcrossGantry$Traffic", "letsIn", "(I[I)Z"⟩, 7) := ⟨⟨by decide +kernel, by decide +kernel⟩, List.mem_of_getElem? (i := 27) (by decide +kernel), List.mem_of_getElem? (i := 726) (by decide +kernel), List.mem_of_getElem? (i := 727) (by decide +kernel)⟩
theorem lw_p15 : lw_okq (⟨"RedcrossGantry$Traffic", "laneToEnter", "([I)I"⟩, 7) := ⟨⟨by decide +kernel, by decide +kernel⟩, List.mem_of_getElem? (i := 27) (by decide +kernel), List.mem_of_getElem? (i := 734) (by decide +kernel), List.mem_of_getElem? (i := 735) (by decide +kernel)⟩
def lw_privs_1 : List (MethodName × Nat) := [(⟨"RedcrossGantry$Bookings", "tellCrossesOf", "(I[I)V"⟩, 6), (⟨"java/lang/Throwable", "fillInStackTrace", "(I)Ljava/lang/Throwable;"⟩, 6), (⟨"RedcrossGantry", "setLaneSigns", "()V"⟩, 10), (⟨"RedcrossGantry", "wayBetween", "(II)I"⟩, 10), (⟨"RedcrossGantry", "minutesThrough", "(I)I"⟩, 10), (⟨"RedcrossGantry$Traffic", "heldAt", "(I)I"⟩, 7), (⟨"RedcrossGantry$Bookings", "areInThreeLanes", "(III)Z"⟩, 6), (⟨"RedcrossGantry$Bookings", "doMeet", "(III)Z"⟩, 6), (⟨"RedcrossGantry", "comeToNextMinute", "()V"⟩, 10), (⟨"RedcrossGantry", "movePatrols", "()V"⟩, 10), (⟨"RedcrossGantry", "endWorkOf", "(I)V"⟩, 10), (⟨"RedcrossGantry$Traffic", "goOnFrom", "(II[I)V"⟩, 7), (⟨"RedcrossGantry$Traffic", "mostThatGoOn", "(II)I"⟩, 7), (⟨"RedcrossGantry$Traffic", "placeToGoTo", "(II[I)I"⟩, 7), (⟨"RedcrossGantry$Traffic", "letsIn", "(I[I)Z"⟩, 7), (⟨"RedcrossGantry$Traffic", "laneToEnter", "([I)I"⟩, 7)]
theorem lw_r1 : ∀ q ∈ lw_privs_1, lw_okq q := List.forall_mem_cons.mpr ⟨lw_p0, List.forall_mem_cons.mpr ⟨lw_p1, List.forall_mem_cons.mpr ⟨lw_p2, List.forall_mem_cons.mpr ⟨lw_p3, List.forall_mem_cons.mpr ⟨lw_p4, List.forall_mem_cons.mpr ⟨lw_p5, List.forall_mem_cons.mpr ⟨lw_p6, List.forall_mem_cons.mpr ⟨lw_p7, List.forall_mem_cons.mpr ⟨lw_p8, List.forall_mem_cons.mpr ⟨lw_p9, List.forall_mem_cons.mpr ⟨lw_p10, List.forall_mem_cons.mpr ⟨lw_p11, List.forall_mem_cons.mpr ⟨lw_p12, List.forall_mem_cons.mpr ⟨lw_p13, List.forall_mem_cons.mpr ⟨lw_p14, List.forall_mem_cons.mpr ⟨lw_p15, fun _ h => absurd h List.not_mem_nil⟩⟩⟩⟩⟩⟩⟩⟩⟩⟩⟩⟩⟩⟩⟩⟩
theorem lw_p16 : lw_okq (⟨"RedcrossGantry$SpeedSigns", "wantAt", "(II)I"⟩, 4) := ⟨⟨by decide +kernel, by decide +kernel⟩, List.mem_of_getElem? (i := 79) (by decide +kernel), List.mem_of_getElem? (i := 747) (by decide +kernel), List.mem_of_getElem? (i := 748) (by decide +kernel)⟩
theorem lw_p17 : lw_okq (⟨"RedcrossGantry$SpeedSigns", "staysBelow", "(III)Z"⟩, 4) := ⟨⟨by decide +kernel, by decide +kernel⟩, List.mem_of_getElem? (i := 79) (by decide +kernel), List.mem_of_getElem? (i := 758) (by decide +kernel), List.mem_of_getElem? (i := 759) (by decide +kernel)⟩
def lw_privs_2 : List (MethodName × Nat) := [(⟨"RedcrossGantry$SpeedSigns", "wantAt", "(II)I"⟩, 4), (⟨"RedcrossGantry$SpeedSigns", "staysBelow", "(III)Z"⟩, 4)]
theorem lw_r2 : ∀ q ∈ lw_privs_2, lw_okq q := List.forall_mem_cons.mpr ⟨lw_p16, List.forall_mem_cons.mpr ⟨lw_p17, fun _ h => absurd h List.not_mem_nil⟩⟩
def lw_privs : List (MethodName × Nat) := lw_privs_1 ++ (lw_privs_2)
def lw_tbl : List Cond := k2_sels lw_privs ++ tables_1
theorem lw_privs_ok : ∀ q ∈ lw_privs, lw_okq q := by
  show ∀ q ∈ lw_privs_1 ++ (lw_privs_2), lw_okq q
  exact List.forall_mem_append.mpr ⟨lw_r1, lw_r2⟩
/-- all words of the tables that stay under warmer tables: every method of ours takes these as its words -/
def Wall : List Cond := lw_tbl.filter goodWord
theorem mwl {k : Nat} {w : Cond} (h : lw_tbl[k]? = some w) (hg : goodWord w = true) : w ∈ Wall := List.mem_filter.mpr ⟨List.mem_of_getElem? h, hg⟩
theorem wall_good : ∀ w ∈ Wall, w ∈ Wall ∧ ((w.onTables && w.keeps) = true ∨ ∃ ty, w = .arrayClass ty) := fun _ h => ⟨h, good_of_word (List.mem_filter.mp h).2⟩
theorem wall_tbl : ∀ w ∈ Wall, w ∈ lw_tbl := fun _ h => (List.mem_filter.mp h).1
abbrev wm (y : MethodName) (b : ByteArray) (n : Nat) (r : Option FieldType) : List Cond := Cond.code y b n r :: Wall
abbrev wmH (y : MethodName) (b : ByteArray) (n : Nat) (r : Option FieldType) (hh : List (Nat × Nat × Nat × Nat)) : List Cond := Cond.codeWith y b n r hh :: Wall
theorem gwL {c : Cond} {pre : List Cond} (hc : c ∈ Wall) (h : ∀ w ∈ pre, w ∈ Wall) : GoodIn Wall (pre ++ (c :: Wall)) := fun w hw => by
  refine wall_good w ?_
  rcases List.mem_append.mp hw with q | q
  · exact h w q
  · rcases List.mem_cons.mp q with rfl | q
    · exact hc
    · exact q
theorem gwM {y : MethodName} {b : ByteArray} {n : Nat} {r : Option FieldType} (hc : Cond.code y b n r ∈ Wall) : GoodIn Wall (wm y b n r) := gwL (pre := []) hc (fun _ h => absurd h List.not_mem_nil)
theorem gwV {own C : String} {idx : Nat} {y : MethodName} {b : ByteArray} {n : Nat} {r : Option FieldType} (h1 : Cond.methodLink own idx y ∈ Wall) (h2 : Cond.instanceMethod y ∈ Wall) (h3 : Cond.selects C y y ∈ Wall) (h4 : Cond.initialized C ∈ Wall) (hc : Cond.code y b n r ∈ Wall) : GoodIn Wall (wsV own idx C y (wm y b n r)) := gwL hc (List.forall_mem_cons.mpr ⟨h1, List.forall_mem_cons.mpr ⟨h2, List.forall_mem_cons.mpr ⟨h3, List.forall_mem_cons.mpr ⟨h4, fun _ h => absurd h List.not_mem_nil⟩⟩⟩⟩)
theorem gwS {own : String} {idx : Nat} {y : MethodName} {b : ByteArray} {n : Nat} {r : Option FieldType} (h1 : Cond.methodLink own idx y ∈ Wall) (h2 : Cond.static y ∈ Wall) (h3 : Cond.initialized y.cls ∈ Wall) (hc : Cond.code y b n r ∈ Wall) : GoodIn Wall (va_wsS own idx y (wm y b n r)) := gwL hc (List.forall_mem_cons.mpr ⟨h1, List.forall_mem_cons.mpr ⟨h2, List.forall_mem_cons.mpr ⟨h3, fun _ h => absurd h List.not_mem_nil⟩⟩⟩)
theorem gwSH {own : String} {idx : Nat} {y : MethodName} {b : ByteArray} {n : Nat} {r : Option FieldType} {hh : List (Nat × Nat × Nat × Nat)} (h1 : Cond.methodLink own idx y ∈ Wall) (h2 : Cond.static y ∈ Wall) (h3 : Cond.initialized y.cls ∈ Wall) (hc : Cond.codeWith y b n r hh ∈ Wall) : GoodIn Wall (va_wsS own idx y (wmH y b n r hh)) := gwL hc (List.forall_mem_cons.mpr ⟨h1, List.forall_mem_cons.mpr ⟨h2, List.forall_mem_cons.mpr ⟨h3, fun _ h => absurd h List.not_mem_nil⟩⟩⟩)
end
section
/-! ===== BEGIN words of one list among another's, by their places ===== -/
theorem goodIn_r {big : List Cond} (ws : List Cond) (ps : List Nat) (hp : ws = ps.filterMap (fun i => big[i]?)) (h : ws.all goodWord = true) : GoodIn big ws := by
  intro w hw
  have h1 := List.all_eq_true.mp h w hw
  rw [hp] at hw
  obtain ⟨i, -, hi⟩ := List.mem_filterMap.mp hw
  have hm : w ∈ big := by first | exact List.mem_of_getElem? hi | exact List.getElem?_mem hi
  exact ⟨hm, good_of_word h1⟩
theorem goodIn_app {big a b : List Cond} (ha : GoodIn big a) (hb : GoodIn big b) : GoodIn big (a ++ b) := fun w h => (List.mem_append.mp h).elim (ha w) (hb w)
theorem goodIn_ca {big a b : List Cond} {c : Cond} (ha : GoodIn big (c :: a)) (hb : GoodIn big b) : GoodIn big (c :: (a ++ b)) := fun w h => (List.mem_cons.mp h).elim (fun e => ha w (List.mem_cons.mpr (Or.inl e))) (fun h => (List.mem_append.mp h).elim (fun h => ha w (List.mem_cons.mpr (Or.inr h))) (hb w))
theorem goodIn_sub {big ws : List Cond} (hm : ∀ w ∈ ws, w ∈ big) (h : ws.all goodWord = true) : GoodIn big ws := fun w hw => ⟨hm w hw, good_of_word (List.all_eq_true.mp h w hw)⟩
/-! ===== END ===== -/

/-! ===== BEGIN exceptions that leave a method, and their catching by the caller (launches without stack traces) ===== -/
section VXA
/-! The laws vx_back, vx_callV, vx_callS, vx_callSW, vx_throw0, vx_throwS follow proofs of the library, with one case more: JvmDerived/Free/Laws.lean (Back.of_free), Shelf42/LK1.lean (callV, callS), Shelf/KitTraced.lean (throwNew0V, throwNewS). -/
/-- where a method has thrown q: the class by its name, the cell, what was written, the world -/
def vx_T (XC : String → State → State → Prop) (st : State) (q : Addr) (t : State) (mc ms : Nat) (free : Addr → Prop) : Prop :=
  ∃ (E : String) (ce : Cell) (L : List Loc), XC E st t ∧ t.heap[q]? = some ce ∧ ce.vm = .none ∧ st.vm.findClass E = some ce.cls ∧ st.WarmedH t.vm ∧ st.sameButNew ({ t with vm := st.vm } : State) L mc ms ∧ ∀ z ∈ L, free z.base
def vx_Q (Qc : Array Value → State → Outcome → State → Prop) (XC : String → State → State → Prop) (mc ms : Nat) (free : Addr → Prop) : Array Value → State → Outcome → State → Prop := fun a st o t =>
  (Qc a st o t ∧ ∃ L, FrameEnd st o t L mc ms ∧ ∀ q ∈ L, free q.base) ∨ ∃ q, o = .threw q ∧ vx_T XC st q t mc ms free
/-- a callee that returns or throws -/
def vx_Met (l : Launch) (y : MethodName) (ws : List Cond) (rm : Room) (Pc : Array Value → State → Prop) (Qc : Array Value → State → Outcome → State → Prop) (XC : String → State → State → Prop) (mc ms : Nat) (free : Addr → Prop) : Prop :=
  MetFree l y (headSpec ws rm) Pc (fun _ _ _ _ _ => True) (vx_Q Qc XC mc ms free)
def vx_Post (XC : String → State → State → Prop) (mc ms : Nat) (free : Addr → Prop) : Pt → Array Value → Addr → Pt → Prop := fun A a q B =>
  ∃ (g : JFrame) (mk : MethodId) (t : State) (L : List Loc) (E : String) (ce : Cell), B.U.heap = t.heap ∧ B.U.vm = t.vm ∧ XC E (A.U.calling g mk a) t ∧ t.heap[q]? = some ce ∧ ce.vm = .none ∧ A.U.vm.findClass E = some ce.cls ∧ B.locs = A.locs ++ L ∧ (∀ z ∈ L, free z.base) ∧ B.cells = A.cells + mc ∧ B.slots = A.slots + ms
def vx_Back (l : Launch) (R : Room) (p : Program) (e : Env) (below : List Frame) (s : State) (sargs : Array Value) (y : MethodName) (len W9 : Nat)
    (Pre : Pt → Array Value → Prop) (Post : Pt → Array Value → Option Value → Pt → Prop) (PostX : Pt → Array Value → Addr → Pt → Prop) : Prop :=
  ∀ (m : MethodId) (meth : Method) (c : Code) (A : Pt) (g : JFrame) (ig : Instr) (mk : MethodId) (a : Array Value),
    Stand p l e R s m sargs below meth c A.U A.locs A.cells A.slots → g.method = m → g.locals.size = c.maxLocals → decode c.code g.pc = .ok (ig, len) →
    2 * g.monitorRoom + (g.stack.map fun v => v.category).sum ≤ W9 → A.U.methodNamed? y = some mk → Pre A a →
    (∃ (v : Option Value) (B : Pt), Stand p l e R s m sargs below meth c B.U B.locs B.cells B.slots ∧ Post A a v B ∧
      Steps p.tables e below (doInvoke e (A.U.setTop g) [] mk a).1 (B.U.setTop { g with pc := g.pc + len, stack := v.toList ++ g.stack })) ∨
    (∃ (q : Addr) (B : Pt), Stand p l e R s m sargs below meth c B.U B.locs B.cells B.slots ∧ PostX A a q B ∧
      Steps p.tables e below (doInvoke e (A.U.setTop g) [] mk a).1 ((B.U.setTop g).pushFrame (.throwing q)))
section Payer
variable {l : Launch} {R : Room} {p : Program} {e : Env} {below : List Frame} {s : State} {sargs : Array Value} {y : MethodName} {len W9 : Nat}
theorem vx_back {ws : List Cond} {rm : Room} {Pc : Array Value → State → Prop} {Qc : Array Value → State → Outcome → State → Prop} {XC : String → State → State → Prop} {mc ms : Nat} {free : Addr → Prop} {bytes : ByteArray} {maxL : Nat} {ret : Option FieldType}
    (hM : vx_Met l y ws rm Pc Qc XC mc ms free) (hblind : FrameBlind Pc) (hrc : rm.cells = mc) (hrs : rm.slots = ms)
    (hframes : rm.frames + 1 ≤ R.frames) (hlocals : W9 + (maxL + 11) + rm.locals ≤ R.locals)
    (hws : ∀ w ∈ ws, ∀ a' U, s.WarmedH U.vm → w.before a' U = true) (hcode : Cond.code y bytes maxL ret ∈ ws) (hinit : ∀ a' U, s.WarmedH U.vm → (Cond.initialized y.cls).before a' U = true) :
    vx_Back l R p e below s sargs y len W9 (PreOf R mc ms Pc) (PostOf Qc mc ms free) (vx_Post XC mc ms free) := by
  intro m meth c A g ig mk a X hg hsize hdg hW hn hp
  have h1 : (headSpec ws rm).pre.before a A.U = true := atoms_intro fun w hw => hws w hw _ _ X.warmed
  have h2 : (Cond.code y bytes maxL ret).before a A.U = true := hws _ hcode _ _ X.warmed
  have h3 : (Cond.initialized y.cls).before a A.U = true := hinit _ _ X.warmed
  have h4 : A.cells + (headSpec ws rm).room.cells ≤ R.cells := by rw [show (headSpec ws rm).room.cells = mc from hrc]; exact hp.1
  have h5 : A.slots + (headSpec ws rm).room.slots ≤ R.slots := by rw [show (headSpec ws rm).room.slots = ms from hrs]; exact hp.2.1
  have hPc : Pc a (A.U.calling g mk a) := hblind _ _ _ _ hp.2.2
  obtain ⟨U, Ls, c0, s0⟩ := A
  dsimp only [Pt.U, Pt.locs, Pt.cells, Pt.slots] at h1 h2 h3 h4 h5 X hn hPc ⊢
  obtain ⟨methY, cY, hmY, hcY, -, hlY, -, -, -, -⟩ := Cond.code_spec hn h2
  obtain ⟨kY, hkY, -⟩ := className_of_methodNamed hn
  have hinitY : kY.init = .initialized := Cond.initialized_spec (findClass_of_methodNamed hn) hkY h3
  have h : At U g.method c below := by rw [hg]; exact X.here
  have hlocals9 : W9 + (maxL + 11) + (headSpec ws rm).room.locals ≤ R.locals := hlocals
  have happ : (headSpec ws rm).appliesLoose y e.platform (U.calling g mk a) = true :=
    Spec.appliesLoose_calling (g := g) h hdg hn hkY hinitY
      (X.room_calling (g := g) (R' := (headSpec ws rm).room) hsize hmY hcY hframes (by rw [hlY]; omega) h4 h5) h1
  obtain ⟨mid, hmid⟩ := h.above
  have hfr : (U.setTop g).frames = (.java g :: mid) ++ below := by rw [State.frames_setTop' g h.top, hmid]; rfl
  obtain ⟨o, s₂, hsteps, -, hend, hq⟩ := Steps.callFree hM p X.admits X.cas X.clock (acts := []) hfr happ hPc trivial
  have hq' : vx_Q Qc XC mc ms free a (U.calling g mk a) o s₂ := hq
  rw [State.frames_setTop' g h.top] at hend
  obtain ⟨g₀, hg0⟩ := Option.isSome_iff_exists.mp h.top
  obtain ⟨r, hr⟩ := State.topJava?_eq_some.mp hg0
  have hr' : (({ U with heap := s₂.heap, slotsUsed := s₂.slotsUsed } : State).setVm s₂.vm).frames = .java g₀ :: r := hr
  rcases hq' with ⟨hqc, L, hfe, hL⟩ | ⟨q, rfl, E, ce, L, hx, hce, hcv, hcl, hW₂, hsm, hL⟩
  · obtain ⟨⟨v, rfl⟩, hW₂, e2, q2, q3, q4, q5, q6⟩ := id hfe
    have e3 : s₂ = ({ (U.calling g mk a).setFrames s₂.frames with heap := s₂.heap, slotsUsed := s₂.slotsUsed } : State).setVm s₂.vm := by
      have : s₂ = ({ s₂ with vm := (U.calling g mk a).vm } : State).setVm s₂.vm := rfl
      rw [e2] at this
      exact this
    obtain ⟨c₂, i₂, len₂, hc₂, hd₂, hf₂⟩ := hend
    have hW' : U.WarmedH s₂.vm := hW₂
    have hcc : c₂ = c := by
      have h1 : s₂.code? g.method = U.code? g.method := by
        rw [State.code?_eq, State.code?_eq, hW'.alike.method?]
      exact Option.some.inj (hc₂.symm.trans (h1.trans h.code))
    subst hcc
    have hlen : len₂ = len := by rw [hdg] at hd₂; cases hd₂; rfl
    subst hlen
    have hs₂ : s₂ = (({ U with heap := s₂.heap, slotsUsed := s₂.slotsUsed } : State).setVm s₂.vm).setTop { g with pc := g.pc + len₂, stack := v.toList ++ g.stack } := by
      refine e3.trans ?_
      rw [hf₂, State.calling_eq h.top, State.setFrames_setFrames, State.setTop_of_frames _ hr', hr]
      rfl
    have hsame : U.sameButNew ({ U with heap := s₂.heap, slotsUsed := s₂.slotsUsed } : State) L mc ms := by
      refine ⟨?_, q2, q3, q4, q5, q6⟩
      obtain ⟨t, ht, -⟩ := State.frames_cons hr
      show ({ U with heap := s₂.heap, slotsUsed := s₂.slotsUsed } : State) = { U.setFrames U.frames with heap := s₂.heap, slotsUsed := s₂.slotsUsed }
      rw [State.setFrames_self ht]
    subst hg
    refine Or.inl ⟨v, ⟨(({ U with heap := s₂.heap, slotsUsed := s₂.slotsUsed } : State).setVm s₂.vm), Ls ++ L, c0 + mc, s0 + ms⟩,
      ⟨X.admits, X.cas, X.clock, X.frames, X.room, X.hears, X.method, X.code, (X.here.setHeapUsed s₂.heap s₂.slotsUsed).setVm hW'.alike, X.tail, State.WarmedH.trans X.warmed hW', X.limits, X.bytes, X.same.trans (hsame.setVm s.vm)⟩,
      ⟨g, mk, s₂, L, rfl, rfl, hqc, rfl, hL, rfl, rfl⟩, ?_⟩
    show Steps p.tables e below _ ((({ U with heap := s₂.heap, slotsUsed := s₂.slotsUsed } : State).setVm s₂.vm).setTop { g with pc := g.pc + len₂, stack := v.toList ++ g.stack })
    rw [← hs₂]
    exact hsteps
  · obtain ⟨e2, q2, q3, q4, q5, q6⟩ := id hsm
    have e3 : s₂ = ({ (U.calling g mk a).setFrames s₂.frames with heap := s₂.heap, slotsUsed := s₂.slotsUsed } : State).setVm s₂.vm := by
      have : s₂ = ({ s₂ with vm := (U.calling g mk a).vm } : State).setVm s₂.vm := rfl
      rw [e2] at this
      exact this
    have hf₂ : s₂.frames = .throwing q :: .java g :: U.frames.tail := hend
    have hW' : U.WarmedH s₂.vm := hW₂
    have hs₂ : s₂ = ((({ U with heap := s₂.heap, slotsUsed := s₂.slotsUsed } : State).setVm s₂.vm).setTop g).pushFrame (.throwing q) := by
      refine e3.trans ?_
      rw [hf₂, State.calling_eq h.top, State.setFrames_setFrames, State.pushFrame, State.frames_setTop _ hr', State.setTop_of_frames _ hr', State.setFrames_setFrames, hr]
      rfl
    have hsame : U.sameButNew ({ U with heap := s₂.heap, slotsUsed := s₂.slotsUsed } : State) L mc ms := by
      refine ⟨?_, q2, q3, q4, q5, q6⟩
      obtain ⟨t, ht, -⟩ := State.frames_cons hr
      show ({ U with heap := s₂.heap, slotsUsed := s₂.slotsUsed } : State) = { U.setFrames U.frames with heap := s₂.heap, slotsUsed := s₂.slotsUsed }
      rw [State.setFrames_self ht]
    subst hg
    refine Or.inr ⟨q, ⟨(({ U with heap := s₂.heap, slotsUsed := s₂.slotsUsed } : State).setVm s₂.vm), Ls ++ L, c0 + mc, s0 + ms⟩,
      ⟨X.admits, X.cas, X.clock, X.frames, X.room, X.hears, X.method, X.code, (X.here.setHeapUsed s₂.heap s₂.slotsUsed).setVm hW'.alike, X.tail, State.WarmedH.trans X.warmed hW', X.limits, X.bytes, X.same.trans (hsame.setVm s.vm)⟩,
      ⟨g, mk, s₂, L, E, ce, rfl, rfl, hx, hce, hcv, hcl, rfl, hL, rfl, rfl⟩, ?_⟩
    show Steps p.tables e below _ (((({ U with heap := s₂.heap, slotsUsed := s₂.slotsUsed } : State).setVm s₂.vm).setTop g).pushFrame (.throwing q))
    rw [← hs₂]
    exact hsteps
end Payer
section Calls
variable {p : Program} {l : Launch} {e : Env} {R : Room} {s : State} {m : MethodId} {args : Array Value} {below : List Frame} {meth : Method} {c : Code} {T : State} {locs : List Loc} {cells slots : Nat}
theorem vx_callV (X : Stand p l e R s m args below meth c T locs cells slots) (hexec : p.tables.exec = Jvm.exec) {own C : String} {index : Nat} {y : MethodName} {bytes : ByteArray} {maxL : Nat} {ret : Option FieldType}
    (hown : s.vm.findClass own = some m.cls) (hlink : (Cond.methodLink own index y).before args s = true) (hinst : (Cond.instanceMethod y).before args s = true) (hsel : (Cond.selects C y y).before args s = true)
    (hcode : (Cond.code y bytes maxL ret).before args s = true) (hy : y.cls ≠ "java/lang/invoke/MethodHandle" ∧ y.cls ≠ "java/lang/invoke/VarHandle")
    {W9 : Nat} {Pre : Pt → Array Value → Prop} {Post : Pt → Array Value → Option Value → Pt → Prop} {PostX : Pt → Array Value → Addr → Pt → Prop} (hK : vx_Back l R p e below s args y 3 W9 Pre Post PostX)
    {b : Addr} {cellB : Cell} (hcell : T.heap[b]? = some cellB) (hobj : cellB.vm.isStatics = false) (hcls : s.vm.findClass C = some cellB.cls)
    {g : JFrame} (hg : g.method = m) (hsize : g.locals.size = c.maxLocals) {argsL rest : List Value} (hlen : ∀ sig, parseMethodDescriptor y.desc = some sig → argsL.length = sig.parameters.length)
    (hstack : g.stack = argsL.reverse ++ .ref b :: rest) (hW : 2 * g.monitorRoom + (rest.map fun v => v.category).sum ≤ W9) (hdg : decode c.code g.pc = .ok (.invokevirtual index, 3))
    (hpre : ∀ vm₁, s.WarmedH vm₁ → Pre ⟨T.setVm vm₁, locs, cells, slots⟩ (Value.ref b :: argsL).toArray) :
    (∃ (v : Option Value) (vm₁ : Vm) (B : Pt), s.WarmedH vm₁ ∧ Stand p l e R s m args below meth c B.U B.locs B.cells B.slots ∧ Post ⟨T.setVm vm₁, locs, cells, slots⟩ (Value.ref b :: argsL).toArray v B ∧
      ∀ target, Steps p.tables e below (B.U.setTop { g with pc := g.pc + 3, stack := v.toList ++ rest }) target → Steps p.tables e below (T.setTop g) target) ∨
    (∃ (q : Addr) (vm₁ : Vm) (B : Pt), s.WarmedH vm₁ ∧ Stand p l e R s m args below meth c B.U B.locs B.cells B.slots ∧ PostX ⟨T.setVm vm₁, locs, cells, slots⟩ (Value.ref b :: argsL).toArray q B ∧
      Steps p.tables e below (T.setTop g) ((B.U.setTop { g with stack := rest }).pushFrame (.throwing q))) := by
  obtain ⟨mk, methM, hnamed, hmethM, hstM, habM⟩ := Cond.instanceMethod_spec hinst
  obtain ⟨methM', cM, hmethM', -, -, -, -, -, -, hsigM⟩ := Cond.code_spec hnamed hcode
  cases hmethM.symm.trans hmethM'
  obtain ⟨c2, r2, m2, q1, q2, q3, q4, kP, hkP, hkPi⟩ := Cond.selects_spec hsel
  cases hcls.symm.trans q1
  cases (State.methodFound?_of_named hnamed hy).symm.trans q2
  cases hnamed.symm.trans q3
  have hselP : selectMethod e.platform s.vm cellB.cls mk = .method mk := by rw [Launch.admits_selectMethod X.admits]; exact q4
  obtain ⟨vm₁, X₁, hstep₁⟩ := X.invokevirtual hexec hown hlink hnamed hmethM hstM hkP hkPi hy (a := b) (cell := cellB) hcell
    (fun z h => by rw [h] at hobj; cases hobj) hselP hmethM habM hkP hkPi (g := g) hg (argsL := argsL) (rest := rest) (hlen _ hsigM) hstack hdg
  rcases hK m meth c ⟨T.setVm vm₁, locs, cells, slots⟩ { g with stack := rest } (.invokevirtual index) mk (Value.ref b :: argsL).toArray X₁ hg hsize hdg hW (X₁.named hnamed) (hpre vm₁ X₁.warmed) with ⟨v, B, X', hpost, hsteps⟩ | ⟨q, B, X', hpost, hsteps⟩
  · exact Or.inl ⟨v, vm₁, B, X₁.warmed, X', hpost, fun target h => hstep₁ _ fun acts => by rw [doInvoke_state]; exact hsteps.trans h⟩
  · exact Or.inr ⟨q, vm₁, B, X₁.warmed, X', hpost, hstep₁ _ fun acts => by rw [doInvoke_state]; exact hsteps⟩
theorem vx_callS (X : Stand p l e R s m args below meth c T locs cells slots) (hexec : p.tables.exec = Jvm.exec) {own : String} {index : Nat} {y : MethodName} {bytes : ByteArray} {maxL : Nat} {ret : Option FieldType}
    (hown : s.vm.findClass own = some m.cls) (hlink : (Cond.methodLink own index y).before args s = true) (hstat : (Cond.static y).before args s = true) (hinit : (Cond.initialized y.cls).before args s = true)
    (hcode : (Cond.code y bytes maxL ret).before args s = true) (hy : y.cls ≠ "java/lang/invoke/MethodHandle" ∧ y.cls ≠ "java/lang/invoke/VarHandle")
    {W9 : Nat} {Pre : Pt → Array Value → Prop} {Post : Pt → Array Value → Option Value → Pt → Prop} {PostX : Pt → Array Value → Addr → Pt → Prop} (hK : vx_Back l R p e below s args y 3 W9 Pre Post PostX)
    {g : JFrame} (hg : g.method = m) (hsize : g.locals.size = c.maxLocals) {argsL rest : List Value} (hlen : ∀ sig, parseMethodDescriptor y.desc = some sig → argsL.length = sig.parameters.length)
    (hstack : g.stack = argsL.reverse ++ rest) (hW : 2 * g.monitorRoom + (rest.map fun v => v.category).sum ≤ W9) (hdg : decode c.code g.pc = .ok (.invokestatic index, 3))
    (hpre : ∀ vm₁, s.WarmedH vm₁ → Pre ⟨T.setVm vm₁, locs, cells, slots⟩ argsL.toArray) :
    (∃ (v : Option Value) (vm₁ : Vm) (B : Pt), s.WarmedH vm₁ ∧ Stand p l e R s m args below meth c B.U B.locs B.cells B.slots ∧ Post ⟨T.setVm vm₁, locs, cells, slots⟩ argsL.toArray v B ∧
      ∀ target, Steps p.tables e below (B.U.setTop { g with pc := g.pc + 3, stack := v.toList ++ rest }) target → Steps p.tables e below (T.setTop g) target) ∨
    (∃ (q : Addr) (vm₁ : Vm) (B : Pt), s.WarmedH vm₁ ∧ Stand p l e R s m args below meth c B.U B.locs B.cells B.slots ∧ PostX ⟨T.setVm vm₁, locs, cells, slots⟩ argsL.toArray q B ∧
      Steps p.tables e below (T.setTop g) ((B.U.setTop { g with stack := rest }).pushFrame (.throwing q))) := by
  obtain ⟨mk, hnamed⟩ := Cond.code_named hcode
  obtain ⟨methM, cM, hmethM, -, -, -, -, -, -, hsigM⟩ := Cond.code_spec hnamed hcode
  have hstatic : methM.isStatic = true := Cond.static_spec hnamed hmethM hstat
  obtain ⟨kP, hkP, -⟩ := className_of_methodNamed hnamed
  have hinitP : kP.init = .initialized := Cond.initialized_spec (findClass_of_methodNamed hnamed) hkP hinit
  obtain ⟨vm₁, X₁, hstep₁⟩ := X.invokestatic hexec hown hlink hnamed hmethM hstatic hkP hinitP hy (g := g) hg (argsL := argsL) (rest := rest) (hlen _ hsigM) hstack hdg
  rcases hK m meth c ⟨T.setVm vm₁, locs, cells, slots⟩ { g with stack := rest } (.invokestatic index) mk argsL.toArray X₁ hg hsize hdg hW (X₁.named hnamed) (hpre vm₁ X₁.warmed) with ⟨v, B, X', hpost, hsteps⟩ | ⟨q, B, X', hpost, hsteps⟩
  · exact Or.inl ⟨v, vm₁, B, X₁.warmed, X', hpost, fun target h => hstep₁ _ fun acts => by rw [doInvoke_state]; exact hsteps.trans h⟩
  · exact Or.inr ⟨q, vm₁, B, X₁.warmed, X', hpost, hstep₁ _ fun acts => by rw [doInvoke_state]; exact hsteps⟩
end Calls
theorem vx_cls {s : State} {T : State} {vm₁ : Vm} {E : String} {k : ClassId} (hW : s.WarmedH vm₁) (h : (T.setVm vm₁).vm.findClass E = some k) : s.vm.findClass E = some k := by
  have h1 : vm₁.findClass E = some k := h
  rw [hW.alike.findClass] at h1
  exact h1
/-- the method's frame g, with q thrown over it -/
def vx_W (p : Program) (l : Launch) (e : Env) (R : Room) (s : State) (m : MethodId) (args : Array Value) (below : List Frame) (meth : Method) (c : Code) (H : Heap) (locs : List Loc) (cells slots : Nat) (Q : State → Prop) (g : JFrame) (q : Addr) : Prop :=
  ∀ T : State, T.heap = H → Stand p l e R s m args below meth c T locs cells slots → ∃ t, Steps p.tables e below ((T.setTop g).pushFrame (.throwing q)) t ∧ Q t
def vx_Run (p : Program) (l : Launch) (e : Env) (R : Room) (s : State) (m : MethodId) (args : Array Value) (below : List Frame) (meth : Method) (c : Code) (H : Heap) (locs : List Loc) (cells slots mc ms : Nat) (g : JFrame) (rest : List Value) (Qa : State → Outcome → State → Prop) (XC : String → State → State → Prop) (free : Addr → Prop) : Prop :=
  ∀ T : State, T.heap = H → Stand p l e R s m args below meth c T locs cells slots →
    (∃ (v : Option Value) (st₀ t T' : State) (L : List Loc), st₀.heap = H ∧ Stand p l e R s m args below meth c T' (locs ++ L) (cells + mc) (slots + ms) ∧ (∀ q ∈ L, free q.base) ∧ T'.heap = t.heap ∧ T'.vm = t.vm ∧ Qa st₀ (.returned v) t ∧
      Goes p e below T g T' { g with pc := g.pc + 3, stack := v.toList ++ rest }) ∨
    (∃ (q : Addr) (st₀ t T' : State) (L : List Loc) (E : String) (ce : Cell), st₀.heap = H ∧ Stand p l e R s m args below meth c T' (locs ++ L) (cells + mc) (slots + ms) ∧ (∀ z ∈ L, free z.base) ∧ T'.heap = t.heap ∧ T'.vm = t.vm ∧ XC E st₀ t ∧ t.heap[q]? = some ce ∧ ce.vm = .none ∧ s.vm.findClass E = some ce.cls ∧
      Steps p.tables e below (T.setTop g) ((T'.setTop { g with stack := rest }).pushFrame (.throwing q)))
def vx_X {S : Type} (px : S → Prop) (B : String → S → State → Prop) (A : Nat → Prop) : String → State → State → Prop := fun E st t => ∃ u : S, px u ∧ B E u t ∧ va_F A st t
section Runs
variable {p : Program} {l : Launch} {e : Env} {R : Room} {s : State} {m : MethodId} {args : Array Value} {below : List Frame} {meth : Method} {c : Code} {H : Heap} {locs : List Loc} {cells slots : Nat}
variable {y : MethodName} {bytes cc : ByteArray} {maxL nL mc ms n index : Nat} {ret : Option FieldType} {ws : List Cond} {rm : Room} {Pc : Array Value → State → Prop} {Qc : Array Value → State → Outcome → State → Prop} {XC : String → State → State → Prop} {free : Addr → Prop} {Ts : List Cond} {own C : String} {b : Addr} {As rest : List Value} {g : JFrame}
theorem vx_callBack (cb : CallB R s args own index y bytes maxL ret ws rm mc ms n) (hM : vx_Met l y ws rm Pc Qc XC mc ms free) (hbl : FrameBlind Pc) : vx_Back l R p e below s args y 3 8 (PreOf R mc ms Pc) (PostOf Qc mc ms free) (vx_Post XC mc ms free) := by
  obtain ⟨hrc, hrs, hfr, hlo, hws, hcw, -, hini, -⟩ := cb
  exact vx_back (bytes := bytes) (maxL := maxL) (ret := ret) hM hbl hrc hrs hfr hlo hws hcw (fun a' U hW => word_at hW (Or.inl (by first | rfl | simp [Cond.onTables, Cond.keeps, Cond.steady])) hini)
theorem vx_runV (S : CallFix p m c cc nL s args Ts own) (hM : vx_Met l y ws rm Pc Qc XC mc ms free) (cw : CallW R s args own C index y bytes maxL ret ws rm mc ms n) (hp : PreV s H C b Pc As)
    (hg : g.method = m) (hn : As.length = n) (hsize : g.locals.size = nL) (hstack : g.stack = As.reverse ++ .ref b :: rest) (hW : 2 * g.monitorRoom + (rest.map fun v => v.category).sum ≤ 8) (hdg : decode cc g.pc = .ok (.invokevirtual index, 3)) (hf : cells + mc ≤ R.cells ∧ slots + ms ≤ R.slots) :
    vx_Run p l e R s m args below meth c H locs cells slots mc ms g rest (Qc (Value.ref b :: As).toArray) XC free := by
  have hK : vx_Back l R p e below s args y 3 8 (PreOf R mc ms Pc) (PostOf Qc mc ms free) (vx_Post XC mc ms free) := vx_callBack cw.1 hM hp.1
  obtain ⟨⟨-, -, -, -, -, -, hcode, -, hy, hlen, hl⟩, hin, hse⟩ := cw
  obtain ⟨hx, hb, hml, ho, -⟩ := S
  obtain ⟨-, ⟨cellB, hcB, hoB, hclB⟩, hPc⟩ := hp
  intro T hT X
  rcases vx_callV X hx (C := C) (bytes := bytes) (maxL := maxL) (ret := ret) ho hl hin hse hcode hy hK (by rw [hT]; exact hcB) hoB hclB hg (hsize.trans hml.symm) (argsL := As) (rest := rest) (fun sig h => hn.trans (hlen sig h)) hstack hW (by rw [hb]; exact hdg)
    (fun vm₁ hW₁ => ⟨hf.1, hf.2, hPc (T.setVm vm₁) hT hW₁⟩) with ⟨v, vm₁, ⟨U', l2, c2, s2⟩, hW₁, X', ⟨g', mk, t, L, e1, e2, hq, h1, hL, h2, h3⟩, st⟩ | ⟨q, vm₁, ⟨U', l2, c2, s2⟩, hW₁, X', ⟨g', mk, t, L, E, ce, e1, e2, hq, hce, hcv, hcl, h1, hL, h2, h3⟩, st⟩
  · dsimp only [Pt.U, Pt.locs, Pt.cells, Pt.slots] at X' e1 e2 h1 h2 h3 st
    subst h1; subst h2; subst h3
    exact Or.inl ⟨v, (T.setVm vm₁).calling g' mk (Value.ref b :: As).toArray, t, U', L, hT, X', hL, e1, e2, hq, st⟩
  · dsimp only [Pt.U, Pt.locs, Pt.cells, Pt.slots] at X' e1 e2 h1 h2 h3 st hcl
    subst h1; subst h2; subst h3
    exact Or.inr ⟨q, (T.setVm vm₁).calling g' mk (Value.ref b :: As).toArray, t, U', L, E, ce, hT, X', hL, e1, e2, hq, hce, hcv, vx_cls hW₁ hcl, st⟩
theorem vx_runS (S : CallFix p m c cc nL s args Ts own) (hM : vx_Met l y ws rm Pc Qc XC mc ms free) (cw : CallB R s args own index y bytes maxL ret ws rm mc ms n ∧ (Cond.static y).before args s = true) (hp : PreS s H Pc As)
    (hg : g.method = m) (hn : As.length = n) (hsize : g.locals.size = nL) (hstack : g.stack = As.reverse ++ rest) (hW : 2 * g.monitorRoom + (rest.map fun v => v.category).sum ≤ 8) (hdg : decode cc g.pc = .ok (.invokestatic index, 3)) (hf : cells + mc ≤ R.cells ∧ slots + ms ≤ R.slots) :
    vx_Run p l e R s m args below meth c H locs cells slots mc ms g rest (Qc As.toArray) XC free := by
  have hK : vx_Back l R p e below s args y 3 8 (PreOf R mc ms Pc) (PostOf Qc mc ms free) (vx_Post XC mc ms free) := vx_callBack cw.1 hM hp.1
  obtain ⟨⟨-, -, -, -, -, -, hcode, hini, hy, hlen, hl⟩, hstt⟩ := cw
  obtain ⟨hx, hb, hml, ho, -⟩ := S
  intro T hT X
  rcases vx_callS X hx (bytes := bytes) (maxL := maxL) (ret := ret) ho hl hstt hini hcode hy hK hg (hsize.trans hml.symm) (argsL := As) (rest := rest) (fun sig h => hn.trans (hlen sig h)) hstack hW (by rw [hb]; exact hdg)
    (fun vm₁ hW₁ => ⟨hf.1, hf.2, hp.2 (T.setVm vm₁) hT hW₁⟩) with ⟨v, vm₁, ⟨U', l2, c2, s2⟩, hW₁, X', ⟨g', mk, t, L, e1, e2, hq, h1, hL, h2, h3⟩, st⟩ | ⟨q, vm₁, ⟨U', l2, c2, s2⟩, hW₁, X', ⟨g', mk, t, L, E, ce, e1, e2, hq, hce, hcv, hcl, h1, hL, h2, h3⟩, st⟩
  · dsimp only [Pt.U, Pt.locs, Pt.cells, Pt.slots] at X' e1 e2 h1 h2 h3 st
    subst h1; subst h2; subst h3
    exact Or.inl ⟨v, (T.setVm vm₁).calling g' mk As.toArray, t, U', L, hT, X', hL, e1, e2, hq, st⟩
  · dsimp only [Pt.U, Pt.locs, Pt.cells, Pt.slots] at X' e1 e2 h1 h2 h3 st hcl
    subst h1; subst h2; subst h3
    exact Or.inr ⟨q, (T.setVm vm₁).calling g' mk As.toArray, t, U', L, E, ce, hT, X', hL, e1, e2, hq, hce, hcv, vx_cls hW₁ hcl, st⟩
end Runs
section Rows
variable {p : Program} {l : Launch} {e : Env} {R : Room} {s : State} {m : MethodId} {args : Array Value} {below : List Frame} {meth : Method} {c : Code} {H : Heap} {locs : List Loc} {cells slots : Nat} {Q : State → Prop}
variable {mc ms : Nat} {free : Addr → Prop} {A0 A1 : Nat → Prop} {H0 : Heap} {a : Array Value} {pc : Nat} {ls : Array Slot} {st0 rest : List Value}
theorem vx_keep {st₀ t T' : State} {L : List Loc} (h0 : st₀.heap = H) (e1 : T'.heap = t.heap) (hS : va_S A0 H0 H locs) (hA : ∀ q, q < H.size → A1 q → A0 q) (hf : ∀ q, free q → A0 q) (hL : ∀ q ∈ L, free q.base) (hF : va_F A1 st₀ t) :
    H.size ≤ T'.heap.size ∧ (∀ q : Nat, q < H.size → ¬ A1 q → T'.heap[q]? = H[q]?) ∧ va_S A0 H0 T'.heap (locs ++ L) := by
  obtain ⟨hz, hk⟩ := hF
  rw [h0] at hz hk
  exact ⟨by rw [e1]; exact hz, fun q h1 h2 => by rw [e1]; exact hk q h1 h2,
    ⟨Nat.le_trans hS.1 (by rw [e1]; exact hz), fun q h1 h2 => by rw [e1, hk q (Nat.lt_of_lt_of_le h1 hS.1) (fun z => h2 (hA q (Nat.lt_of_lt_of_le h1 hS.1) z))]; exact hS.2.1 q h1 h2, fun q hq => by
      rcases List.mem_append.mp hq with h | h
      · exact hS.2.2 q h
      · exact hf _ (hL q h)⟩⟩
theorem vx_calli {S SX : Type} {post : Int32 → S → Prop} {px : SX → Prop} {B : S → State → Prop} {BX : String → SX → State → Prop} {AX : Nat → Prop} (hr : vx_Run p l e R s m args below meth c H locs cells slots mc ms (F0 m pc ls st0) rest (va_Qi post B A1 a) (vx_X px BX AX) free) (hS : va_S A0 H0 H locs) (hA : ∀ q, q < H.size → A1 q → A0 q) (hf : ∀ q, free q → A0 q) (hAX : ∀ q, q < H.size → AX q → A0 q)
    (kx : ∀ (E : String) (ce : Cell) (q9 : Addr) (u : SX) (t : State) (H1 : Heap) (locs1 : List Loc), t.heap = H1 → s.vm.Alike t.vm → px u → BX E u t → H.size ≤ H1.size → (∀ q : Nat, q < H.size → ¬ AX q → H1[q]? = H[q]?) → va_S A0 H0 H1 locs1 → H1[q9]? = some ce → ce.vm = .none → s.vm.findClass E = some ce.cls → vx_W p l e R s m args below meth c H1 locs1 (cells + mc) (slots + ms) Q (F0 m pc ls rest) q9)
    (kk : ∀ (r : Int32) (u : S) (t : State) (H1 : Heap) (locs1 : List Loc), t.heap = H1 → s.vm.Alike t.vm → post r u → B u t → H.size ≤ H1.size → (∀ q : Nat, q < H.size → ¬ A1 q → H1[q]? = H[q]?) → va_S A0 H0 H1 locs1 → W p l e R s m args below meth c H1 locs1 (cells + mc) (slots + ms) Q (F0 m (pc + 3) ls (.int r :: rest))) : W p l e R s m args below meth c H locs cells slots Q (F0 m pc ls st0) := by
  intro T hT X
  rcases hr T hT X with ⟨v, st₀, t, T', L, h0, X', hL, e1, e2, ⟨⟨r, u, hv, hp, hb⟩, hF⟩, st⟩ | ⟨q, st₀, t, T', L, E, ce, h0, X', hL, e1, e2, ⟨u, hp, hb, hF⟩, hce, hcv, hcl, st⟩
  · cases hv
    obtain ⟨k1, k2, k3⟩ := vx_keep h0 e1 hS hA hf hL hF
    obtain ⟨t2, a1, b1⟩ := kk r u t T'.heap (locs ++ L) e1.symm (by rw [← e2]; exact X'.warmed.alike) hp hb k1 k2 k3 T' rfl X'
    exact ⟨t2, st t2 a1, b1⟩
  · obtain ⟨k1, k2, k3⟩ := vx_keep h0 e1 hS hAX hf hL hF
    obtain ⟨t2, a1, b1⟩ := kx E ce q u t T'.heap (locs ++ L) e1.symm (by rw [← e2]; exact X'.warmed.alike) hp hb k1 k2 k3 (by rw [e1]; exact hce) hcv hcl T' rfl X'
    exact ⟨t2, st.trans a1, b1⟩
theorem vx_calll {S SX : Type} {post : Int64 → S → Prop} {px : SX → Prop} {B : S → State → Prop} {BX : String → SX → State → Prop} {AX : Nat → Prop} (hr : vx_Run p l e R s m args below meth c H locs cells slots mc ms (F0 m pc ls st0) rest (va_Ql post B A1 a) (vx_X px BX AX) free) (hS : va_S A0 H0 H locs) (hA : ∀ q, q < H.size → A1 q → A0 q) (hf : ∀ q, free q → A0 q) (hAX : ∀ q, q < H.size → AX q → A0 q)
    (kx : ∀ (E : String) (ce : Cell) (q9 : Addr) (u : SX) (t : State) (H1 : Heap) (locs1 : List Loc), t.heap = H1 → s.vm.Alike t.vm → px u → BX E u t → H.size ≤ H1.size → (∀ q : Nat, q < H.size → ¬ AX q → H1[q]? = H[q]?) → va_S A0 H0 H1 locs1 → H1[q9]? = some ce → ce.vm = .none → s.vm.findClass E = some ce.cls → vx_W p l e R s m args below meth c H1 locs1 (cells + mc) (slots + ms) Q (F0 m pc ls rest) q9)
    (kk : ∀ (r : Int64) (u : S) (t : State) (H1 : Heap) (locs1 : List Loc), t.heap = H1 → s.vm.Alike t.vm → post r u → B u t → H.size ≤ H1.size → (∀ q : Nat, q < H.size → ¬ A1 q → H1[q]? = H[q]?) → va_S A0 H0 H1 locs1 → W p l e R s m args below meth c H1 locs1 (cells + mc) (slots + ms) Q (F0 m (pc + 3) ls (.long r :: rest))) : W p l e R s m args below meth c H locs cells slots Q (F0 m pc ls st0) := by
  intro T hT X
  rcases hr T hT X with ⟨v, st₀, t, T', L, h0, X', hL, e1, e2, ⟨⟨r, u, hv, hp, hb⟩, hF⟩, st⟩ | ⟨q, st₀, t, T', L, E, ce, h0, X', hL, e1, e2, ⟨u, hp, hb, hF⟩, hce, hcv, hcl, st⟩
  · cases hv
    obtain ⟨k1, k2, k3⟩ := vx_keep h0 e1 hS hA hf hL hF
    obtain ⟨t2, a1, b1⟩ := kk r u t T'.heap (locs ++ L) e1.symm (by rw [← e2]; exact X'.warmed.alike) hp hb k1 k2 k3 T' rfl X'
    exact ⟨t2, st t2 a1, b1⟩
  · obtain ⟨k1, k2, k3⟩ := vx_keep h0 e1 hS hAX hf hL hF
    obtain ⟨t2, a1, b1⟩ := kx E ce q u t T'.heap (locs ++ L) e1.symm (by rw [← e2]; exact X'.warmed.alike) hp hb k1 k2 k3 (by rw [e1]; exact hce) hcv hcl T' rfl X'
    exact ⟨t2, st.trans a1, b1⟩
theorem vx_callf {S SX : Type} {post : UInt32 → S → Prop} {px : SX → Prop} {B : S → State → Prop} {BX : String → SX → State → Prop} {AX : Nat → Prop} (hr : vx_Run p l e R s m args below meth c H locs cells slots mc ms (F0 m pc ls st0) rest (va_Qf post B A1 a) (vx_X px BX AX) free) (hS : va_S A0 H0 H locs) (hA : ∀ q, q < H.size → A1 q → A0 q) (hf : ∀ q, free q → A0 q) (hAX : ∀ q, q < H.size → AX q → A0 q)
    (kx : ∀ (E : String) (ce : Cell) (q9 : Addr) (u : SX) (t : State) (H1 : Heap) (locs1 : List Loc), t.heap = H1 → s.vm.Alike t.vm → px u → BX E u t → H.size ≤ H1.size → (∀ q : Nat, q < H.size → ¬ AX q → H1[q]? = H[q]?) → va_S A0 H0 H1 locs1 → H1[q9]? = some ce → ce.vm = .none → s.vm.findClass E = some ce.cls → vx_W p l e R s m args below meth c H1 locs1 (cells + mc) (slots + ms) Q (F0 m pc ls rest) q9)
    (kk : ∀ (r : UInt32) (u : S) (t : State) (H1 : Heap) (locs1 : List Loc), t.heap = H1 → s.vm.Alike t.vm → post r u → B u t → H.size ≤ H1.size → (∀ q : Nat, q < H.size → ¬ A1 q → H1[q]? = H[q]?) → va_S A0 H0 H1 locs1 → W p l e R s m args below meth c H1 locs1 (cells + mc) (slots + ms) Q (F0 m (pc + 3) ls (.float r :: rest))) : W p l e R s m args below meth c H locs cells slots Q (F0 m pc ls st0) := by
  intro T hT X
  rcases hr T hT X with ⟨v, st₀, t, T', L, h0, X', hL, e1, e2, ⟨⟨r, u, hv, hp, hb⟩, hF⟩, st⟩ | ⟨q, st₀, t, T', L, E, ce, h0, X', hL, e1, e2, ⟨u, hp, hb, hF⟩, hce, hcv, hcl, st⟩
  · cases hv
    obtain ⟨k1, k2, k3⟩ := vx_keep h0 e1 hS hA hf hL hF
    obtain ⟨t2, a1, b1⟩ := kk r u t T'.heap (locs ++ L) e1.symm (by rw [← e2]; exact X'.warmed.alike) hp hb k1 k2 k3 T' rfl X'
    exact ⟨t2, st t2 a1, b1⟩
  · obtain ⟨k1, k2, k3⟩ := vx_keep h0 e1 hS hAX hf hL hF
    obtain ⟨t2, a1, b1⟩ := kx E ce q u t T'.heap (locs ++ L) e1.symm (by rw [← e2]; exact X'.warmed.alike) hp hb k1 k2 k3 (by rw [e1]; exact hce) hcv hcl T' rfl X'
    exact ⟨t2, st.trans a1, b1⟩
theorem vx_calld {S SX : Type} {post : UInt64 → S → Prop} {px : SX → Prop} {B : S → State → Prop} {BX : String → SX → State → Prop} {AX : Nat → Prop} (hr : vx_Run p l e R s m args below meth c H locs cells slots mc ms (F0 m pc ls st0) rest (va_Qd post B A1 a) (vx_X px BX AX) free) (hS : va_S A0 H0 H locs) (hA : ∀ q, q < H.size → A1 q → A0 q) (hf : ∀ q, free q → A0 q) (hAX : ∀ q, q < H.size → AX q → A0 q)
    (kx : ∀ (E : String) (ce : Cell) (q9 : Addr) (u : SX) (t : State) (H1 : Heap) (locs1 : List Loc), t.heap = H1 → s.vm.Alike t.vm → px u → BX E u t → H.size ≤ H1.size → (∀ q : Nat, q < H.size → ¬ AX q → H1[q]? = H[q]?) → va_S A0 H0 H1 locs1 → H1[q9]? = some ce → ce.vm = .none → s.vm.findClass E = some ce.cls → vx_W p l e R s m args below meth c H1 locs1 (cells + mc) (slots + ms) Q (F0 m pc ls rest) q9)
    (kk : ∀ (r : UInt64) (u : S) (t : State) (H1 : Heap) (locs1 : List Loc), t.heap = H1 → s.vm.Alike t.vm → post r u → B u t → H.size ≤ H1.size → (∀ q : Nat, q < H.size → ¬ A1 q → H1[q]? = H[q]?) → va_S A0 H0 H1 locs1 → W p l e R s m args below meth c H1 locs1 (cells + mc) (slots + ms) Q (F0 m (pc + 3) ls (.double r :: rest))) : W p l e R s m args below meth c H locs cells slots Q (F0 m pc ls st0) := by
  intro T hT X
  rcases hr T hT X with ⟨v, st₀, t, T', L, h0, X', hL, e1, e2, ⟨⟨r, u, hv, hp, hb⟩, hF⟩, st⟩ | ⟨q, st₀, t, T', L, E, ce, h0, X', hL, e1, e2, ⟨u, hp, hb, hF⟩, hce, hcv, hcl, st⟩
  · cases hv
    obtain ⟨k1, k2, k3⟩ := vx_keep h0 e1 hS hA hf hL hF
    obtain ⟨t2, a1, b1⟩ := kk r u t T'.heap (locs ++ L) e1.symm (by rw [← e2]; exact X'.warmed.alike) hp hb k1 k2 k3 T' rfl X'
    exact ⟨t2, st t2 a1, b1⟩
  · obtain ⟨k1, k2, k3⟩ := vx_keep h0 e1 hS hAX hf hL hF
    obtain ⟨t2, a1, b1⟩ := kx E ce q u t T'.heap (locs ++ L) e1.symm (by rw [← e2]; exact X'.warmed.alike) hp hb k1 k2 k3 (by rw [e1]; exact hce) hcv hcl T' rfl X'
    exact ⟨t2, st.trans a1, b1⟩
theorem vx_callv {S SX : Type} {post : S → Prop} {px : SX → Prop} {B : S → State → Prop} {BX : String → SX → State → Prop} {AX : Nat → Prop} (hr : vx_Run p l e R s m args below meth c H locs cells slots mc ms (F0 m pc ls st0) rest (va_Qv post B A1 a) (vx_X px BX AX) free) (hS : va_S A0 H0 H locs) (hA : ∀ q, q < H.size → A1 q → A0 q) (hf : ∀ q, free q → A0 q) (hAX : ∀ q, q < H.size → AX q → A0 q)
    (kx : ∀ (E : String) (ce : Cell) (q9 : Addr) (u : SX) (t : State) (H1 : Heap) (locs1 : List Loc), t.heap = H1 → s.vm.Alike t.vm → px u → BX E u t → H.size ≤ H1.size → (∀ q : Nat, q < H.size → ¬ AX q → H1[q]? = H[q]?) → va_S A0 H0 H1 locs1 → H1[q9]? = some ce → ce.vm = .none → s.vm.findClass E = some ce.cls → vx_W p l e R s m args below meth c H1 locs1 (cells + mc) (slots + ms) Q (F0 m pc ls rest) q9)
    (kk : ∀ (u : S) (t : State) (H1 : Heap) (locs1 : List Loc), t.heap = H1 → s.vm.Alike t.vm → post u → B u t → H.size ≤ H1.size → (∀ q : Nat, q < H.size → ¬ A1 q → H1[q]? = H[q]?) → va_S A0 H0 H1 locs1 → W p l e R s m args below meth c H1 locs1 (cells + mc) (slots + ms) Q (F0 m (pc + 3) ls (rest))) : W p l e R s m args below meth c H locs cells slots Q (F0 m pc ls st0) := by
  intro T hT X
  rcases hr T hT X with ⟨v, st₀, t, T', L, h0, X', hL, e1, e2, ⟨⟨u, hv, hp, hb⟩, hF⟩, st⟩ | ⟨q, st₀, t, T', L, E, ce, h0, X', hL, e1, e2, ⟨u, hp, hb, hF⟩, hce, hcv, hcl, st⟩
  · cases hv
    obtain ⟨k1, k2, k3⟩ := vx_keep h0 e1 hS hA hf hL hF
    obtain ⟨t2, a1, b1⟩ := kk u t T'.heap (locs ++ L) e1.symm (by rw [← e2]; exact X'.warmed.alike) hp hb k1 k2 k3 T' rfl X'
    exact ⟨t2, st t2 a1, b1⟩
  · obtain ⟨k1, k2, k3⟩ := vx_keep h0 e1 hS hAX hf hL hF
    obtain ⟨t2, a1, b1⟩ := kx E ce q u t T'.heap (locs ++ L) e1.symm (by rw [← e2]; exact X'.warmed.alike) hp hb k1 k2 k3 (by rw [e1]; exact hce) hcv hcl T' rfl X'
    exact ⟨t2, st.trans a1, b1⟩
/-- caught by the row x of this method's table; the rows ahead don't take it -/
theorem vx_catch {own name : String} {E : String} {ce : Cell} {q : Addr} (hown : s.vm.findClass own = some m.cls) (pre : List ExceptionTableEntry) (x : ExceptionTableEntry) (suf : List ExceptionTableEntry) (hsplit : c.exceptionTable.toList = pre ++ x :: suf)
    (hpass : ∀ z ∈ pre, covers z pc = false ∨ (z.catchType ≠ 0 ∧ ∃ nm : String, (Cond.classLink own z.catchType nm).before args s = true ∧ va_Nc E nm s)) (hx : covers x pc = true) (h0 : x.catchType ≠ 0)
    (hlink : (Cond.classLink own x.catchType name).before args s = true) (hcast : (Cond.castable E name).before args s = true) (hcell : H[q]? = some ce) (hv : ce.vm = .none) (hcl : s.vm.findClass E = some ce.cls)
    (kk : W p l e R s m args below meth c H locs cells slots Q (F0 m x.handlerPc ls [.ref q])) : vx_W p l e R s m args below meth c H locs cells slots Q (F0 m pc ls rest) q := by
  intro T hT X
  have hpl : e.platform.magicAccessors = ({} : Platform).magicAccessors := by rw [X.admits.platform]
  obtain ⟨c3, c4, hc3, hc4, hasg⟩ := Cond.castable_spec hcast
  cases Option.some.inj (hc3.symm.trans hcl)
  obtain ⟨c5, hc5, hcl5⟩ := Cond.classLink_spec hown hlink e.platform hpl
  cases Option.some.inj (hc4.symm.trans hc5)
  obtain ⟨vm', X', st⟩ := X.thenCaughtThrough q (g := F0 m pc ls rest) rfl (Steps.refl _) (by rw [hT]; exact hcell) (by rw [hv]; rfl) (by obtain ⟨k9, h9, -⟩ := Vm.findClass_spec hcl; exact ⟨k9, h9⟩) pre x suf hsplit
    (fun z hz => by
      rcases hpass z hz with h | ⟨hz0, nm, hl1, hn1⟩
      · exact Or.inl h
      · obtain ⟨c6, hc6, hcl6⟩ := Cond.classLink_spec hown hl1 e.platform hpl
        obtain ⟨a8, b8, h1, h2, h3⟩ := hn1
        cases Option.some.inj (h1.symm.trans hcl)
        cases Option.some.inj (h2.symm.trans hc6)
        exact Or.inr ⟨hz0, _, hcl6, h3⟩) hx (Or.inr ⟨h0, c4, hcl5, hasg⟩)
  obtain ⟨t, a1, b1⟩ := kk (T.setVm vm') hT X'
  exact ⟨t, st.trans a1, b1⟩
end Rows
section Ends
variable {p : Program} {l : Launch} {e : Env} {R : Room} {s : State} {m : MethodId} {args : Array Value} {below : List Frame} {meth : Method} {c : Code} {H : Heap} {locs : List Loc} {cells slots : Nat} {Q : State → Prop}
variable {mc ms : Nat} {free : Addr → Prop} {A0 A1 : Nat → Prop} {H0 : Heap} {a : Array Value} {ls : Array Slot} {st0 rest : List Value}
variable {Qc : Array Value → State → Outcome → State → Prop} {XC : String → State → State → Prop}
/-- what a body that may throw owes at its end -/
def vx_MQ (below : List Frame) (Qc : Array Value → State → Outcome → State → Prop) (XC : String → State → State → Prop) (a : Array Value) (s : State) (mc ms : Nat) (free : Addr → Prop) : State → Prop := fun t =>
  ∃ o, t.status = .running ∧ Ended t below o ∧ vx_Q Qc XC mc ms free a s o t
theorem vx_ret {g : JFrame} {mc ms : Nat} (k : W p l e R s m args below meth c H locs cells slots (MQ below Qc args s mc ms free) g) : W p l e R s m args below meth c H locs cells slots (vx_MQ below Qc XC args s mc ms free) g := by
  intro T hT X
  obtain ⟨t, a1, o, b1, b2, b3, b4⟩ := k T hT X
  exact ⟨t, a1, o, b1, b2, Or.inl ⟨b3, b4⟩⟩
/-- not caught here: it goes on to the caller -/
theorem vx_widen {g : JFrame} {q : Addr} {k n : Nat} (h1 : cells ≤ k) (h2 : slots ≤ n) (kk : vx_W p l e R s m args below meth c H locs k n Q g q) : vx_W p l e R s m args below meth c H locs cells slots Q g q := fun T hT X => kk T hT (stand_widen X h1 h2)
theorem vx_out {pc : Nat} {E : String} {ce : Cell} {q : Addr} {mc ms : Nat} (hout : ∀ x ∈ c.exceptionTable.toList, covers x pc = false) (hlocks : meth.locks = false) (hcell : H[q]? = some ce) (hv : ce.vm = .none) (hcl : s.vm.findClass E = some ce.cls)
    (hx : ∀ t : State, t.heap = H → s.vm.Alike t.vm → XC E s t) (hf : ∀ z ∈ locs, free z.base) (hc : cells ≤ mc) (hs : slots ≤ ms) :
    vx_W p l e R s m args below meth c H locs cells slots (vx_MQ below Qc XC args s mc ms free) (F0 m pc ls rest) q := by
  intro T hT X
  obtain ⟨st1, hrun, hend, hW, hsm⟩ := X.leaveThrown q (g := F0 m pc ls rest) rfl rfl rfl hout hlocks
  have hcell9 : (T.setFrames (.throwing q :: below)).heap[q]? = some ce := by
    show T.heap[q]? = some ce
    rw [hT]; exact hcell
  exact ⟨_, st1, .threw q, hrun, hend, Or.inr ⟨q, rfl, E, ce, locs, hx _ hT hW.alike, hcell9, hv, hcl, hW, hsm.mono hc hs, hf⟩⟩
theorem vx_frame {U : State} {k n : Nat} (h : s.sameButNew ({ U with vm := s.vm } : State) locs k n) : s.heap.size ≤ U.heap.size ∧ ∀ q : Nat, q < s.heap.size → (∀ z ∈ locs, z.base ≠ q) → U.heap[q]? = s.heap[q]? := by
  obtain ⟨-, h2, -, -, -, h6⟩ := h
  refine ⟨h2, fun q hq hz => ?_⟩
  obtain ⟨c9, e1, e2, e3, e4⟩ := h6 q _ (Array.getElem?_eq_getElem hq)
  have hs : c9.slots = (s.heap[q]).slots := Array.ext_getElem? fun i => e4 i fun hm => hz _ hm rfl
  have h9 : c9 = s.heap[q] := by
    rw [hs] at e2
    exact e2
  have e5 : U.heap[q]? = some c9 := e1
  rw [e5, h9, Array.getElem?_eq_getElem hq]
/-- the words of a throw but the four that speak of the heap -/
def vx_no (w : Cond) : Bool := decide (w ≠ .isRef (.static Bundle.tN "UNASSIGNED_STACK" Bundle.steD)) && decide (w ≠ .isRef (.static Bundle.tN "SUPPRESSED_SENTINEL" Bundle.listD)) && decide (w ≠ .laysStatic Bundle.tN "UNASSIGNED_STACK" Bundle.steD) && decide (w ≠ .laysStatic Bundle.tN "SUPPRESSED_SENTINEL" Bundle.listD)
def vx_at0 (own : String) (ic : Nat) (X : String) (names : List String) : List Cond := (Bundle.ownAtoms0 own ic X names).filter vx_no
def vx_atS (own : String) (ic : Nat) (X : String) (names : List String) : List Cond := (Bundle.ownAtoms own ic X names).filter vx_no
/-- a word that the tables alone decide, or a good one -/
def vx_ot (w : Cond) : Bool := w.onTables || goodWord w
theorem vx_ot_at {args a' : Array Value} {s U : State} {w : Cond} (hW : s.WarmedH U.vm) (hvm : s.vm = U.vm) (hg : vx_ot w = true) (h : w.before args s = true) : w.before a' U = true := by
  simp only [vx_ot, Bool.or_eq_true] at hg
  rcases hg with hg | hg
  · exact va_tabs hg hvm h
  · exact word_at hW (good_of_word hg) h
/-- a list's words: the good ones out of the method's own list, the others by premises of their own -/
theorem vx_hat {args : Array Value} {s : State} {L B : List Cond} (h1 : ∀ w ∈ L.filter goodWord, w.before args s = true) (h2 : ∀ w ∈ L.filter (fun w => !goodWord w), w ∈ B) (h3 : ∀ w ∈ B, w.before args s = true) : ∀ w ∈ L, w.before args s = true := by
  intro w hw
  by_cases g : goodWord w = true
  · exact h1 w (List.mem_filter.mpr ⟨hw, g⟩)
  · refine h3 w (h2 w (List.mem_filter.mpr ⟨hw, ?_⟩))
    show (!goodWord w) = true
    cases hgw : goodWord w
    · rfl
    · exact absurd hgw g
theorem vx_c {args : Array Value} {s : State} {w : Cond} {B : List Cond} (h : w.before args s = true) (t : ∀ w ∈ B, w.before args s = true) : ∀ w' ∈ w :: B, w'.before args s = true := fun w' h' => (List.mem_cons.mp h').elim (fun e => by rw [e]; exact h) (t w')
theorem vx_n {args : Array Value} {s : State} : ∀ w ∈ ([] : List Cond), w.before args s = true := fun _ h => nomatch h
theorem vx_own {args : Array Value} {s : State} {L : List Cond} (h1 : ∀ w ∈ L.filter vx_no, w.before args s = true)
    (hU : (Cond.isRef (.static Bundle.tN "UNASSIGNED_STACK" Bundle.steD)).before args s = true) (hN : (Cond.isRef (.static Bundle.tN "SUPPRESSED_SENTINEL" Bundle.listD)).before args s = true)
    (lU : (Cond.laysStatic Bundle.tN "UNASSIGNED_STACK" Bundle.steD).before args s = true) (lN : (Cond.laysStatic Bundle.tN "SUPPRESSED_SENTINEL" Bundle.listD).before args s = true) : ∀ w ∈ L, w.before args s = true := by
  intro w hw
  by_cases e1 : w = .isRef (.static Bundle.tN "UNASSIGNED_STACK" Bundle.steD)
  · rw [e1]; exact hU
  · by_cases e2 : w = .isRef (.static Bundle.tN "SUPPRESSED_SENTINEL" Bundle.listD)
    · rw [e2]; exact hN
    · by_cases e3 : w = .laysStatic Bundle.tN "UNASSIGNED_STACK" Bundle.steD
      · rw [e3]; exact lU
      · by_cases e4 : w = .laysStatic Bundle.tN "SUPPRESSED_SENTINEL" Bundle.listD
        · rw [e4]; exact lN
        · exact h1 w (List.mem_filter.mpr ⟨hw, by unfold vx_no; rw [decide_eq_true e1, decide_eq_true e2, decide_eq_true e3, decide_eq_true e4]; rfl⟩)
/-- where a static field lies, its class's statics cell in H -/
def vx_L (C n d : String) (A : Nat → Prop) (U : State) (H : Heap) : Prop := ∃ (c : ClassId) (k : Class) (i : Nat) (f : Field) (a : Nat) (cell : Cell), U.vm.findClass C = some c ∧ U.fieldFound? C n d = some (c, k, i, f) ∧ f.isStatic = true ∧ k.statics = some a ∧ H[a]? = some cell ∧ cell.vm.isStatics = true ∧ cell.cls = c ∧ f.slot < cell.slots.size ∧ k.staticTypes[f.slot]? = some f.type ∧ ¬ A a
theorem vx_L.moved {C n d : String} {A : Nat → Prop} {u U : State} {H : Heap} (hvm : u.vm.Alike U.vm) (h : vx_L C n d A u H) : vx_L C n d A U H := by
  obtain ⟨c, k, i, f, a, cell, h1, h2, h3, h4, h5, h6, h7, h8, h9, h10⟩ := h
  obtain ⟨k', hi', he⟩ := State.fieldFound?_setVm hvm h2
  exact ⟨c, k', i, f, a, cell, by rw [hvm.findClass]; exact h1, hi', h3, by rw [he]; exact h4, h5, h6, h7, h8, by rw [he]; exact h9, h10⟩
theorem vx_L.kept {C n d : String} {A : Nat → Prop} {U : State} {H H1 : Heap} (h : vx_L C n d A U H) (hq : ∀ a : Nat, a < H.size → ¬ A a → H1[a]? = H[a]?) : vx_L C n d A U H1 := by
  obtain ⟨c, k, i, f, a, cell, h1, h2, h3, h4, h5, h6, h7, h8, h9, h10⟩ := h
  exact ⟨c, k, i, f, a, cell, h1, h2, h3, h4, by rw [hq a (Array.getElem?_eq_some_iff.mp h5).1 h10]; exact h5, h6, h7, h8, h9, h10⟩
theorem vx_L.narrow {C n d : String} {A B : Nat → Prop} {U : State} {H : Heap} (h : vx_L C n d A U H) (hAB : ∀ q, B q → A q) : vx_L C n d B U H := by
  obtain ⟨c, k, i, f, a, cell, h1, h2, h3, h4, h5, h6, h7, h8, h9, h10⟩ := h
  exact ⟨c, k, i, f, a, cell, h1, h2, h3, h4, h5, h6, h7, h8, h9, fun z => h10 (hAB _ z)⟩
theorem vx_L.word {C n d : String} {A : Nat → Prop} {s : State} {args : Array Value} (h : vx_L C n d A s s.heap) : (Cond.laysStatic C n d).before args s = true := by
  obtain ⟨c, k, i, f, a, cell, h1, h2, h3, h4, h5, h6, h7, h8, h9, -⟩ := h
  show (Cond.laysStatic C n d).holds args s none s [] = true
  exact Cond.laysStatic_of h1 h2 h3 h4 h5 h6 h7 h8 h9
/-- .. and what it holds: null or some reference -/
def vx_Zq (C n d : String) (A : Nat → Prop) (U : State) (H : Heap) : Prop := va_Zq C n d A U H ∧ vx_L C n d A U H
theorem vx_Zq.moved {C n d : String} {A : Nat → Prop} {u U : State} {H : Heap} (hvm : u.vm.Alike U.vm) (h : vx_Zq C n d A u H) : vx_Zq C n d A U H := ⟨va_Zq.moved hvm h.1, vx_L.moved hvm h.2⟩
theorem vx_Zq.kept {C n d : String} {A : Nat → Prop} {U : State} {H H1 : Heap} (h : vx_Zq C n d A U H) (hq : ∀ a : Nat, a < H.size → ¬ A a → H1[a]? = H[a]?) : vx_Zq C n d A U H1 := ⟨va_Zq.kept h.1 hq, vx_L.kept h.2 hq⟩
theorem vx_Zq.narrow {C n d : String} {A B : Nat → Prop} {U : State} {H : Heap} (h : vx_Zq C n d A U H) (hAB : ∀ q, B q → A q) : vx_Zq C n d B U H := ⟨va_Zq.narrow h.1 hAB, vx_L.narrow h.2 hAB⟩
theorem vx_Zqof {args : Array Value} {s : State} {C n d : String} {A : Nat → Prop} (hl : (Cond.laysStatic C n d).before args s = true) (hini : (Cond.initialized C).before args s = true) (h : (Cond.isRef (.static C n d)).before args s = true) (hA : ∀ a : Nat, a < s.heap.size → ¬ A a) : vx_Zq C n d A s s.heap := by
  refine ⟨va_Zqof hl hini h hA, ?_⟩
  obtain ⟨c, k, i, f, a, cell, h1, h2, h3, h4, h5, h6, h7, h8, h9⟩ := Cond.laysStatic_spec hl
  exact ⟨c, k, i, f, a, cell, h1, h2, h3, h4, h5, h6, h7, h8, h9, hA a (Array.getElem?_eq_some_iff.mp h5).1⟩
theorem vx_isRef {C n d : String} {v : Value} {A : Nat → Prop} {s : State} {args : Array Value} (h : va_Z C n d v A s s.heap) (hv : v.isRef = true) : (Cond.isRef (.static C n d)).before args s = true := by
  obtain ⟨cf, kf, fi, f, a, cell, h1, h2, h3, h4, h5, h6, h7, -⟩ := h
  have he : (Term.static C n d).eval args s none [] s = some v := by
    simp [Term.eval, State.fieldNamed?, h1, h2, h4, h5, h6, h7]
  simp only [Cond.before, Cond.holds, Cond.value, he]
  cases v <;> simp_all [Value.isRef]
theorem vx_isRefq {C n d : String} {A : Nat → Prop} {s : State} {args : Array Value} (h : va_Zq C n d A s s.heap) : (Cond.isRef (.static C n d)).before args s = true := by
  rcases h with h | ⟨t, h⟩
  · exact vx_isRef h rfl
  · exact vx_isRef h rfl
/-- the same frame, seen from here: as if the method were called anew in this heap -/
theorem vx_rebase {T : State} (X : Stand p l e R s m args below meth c T locs cells slots) {R' : Room} (hf : R'.frames ≤ R.frames) (hl : R'.locals ≤ R.locals) (hc : cells + R'.cells ≤ R.cells) (hs : slots + R'.slots ≤ R.slots) :
    Stand p l e R' ((T.setVm s.vm).setFrames (.invoking m args :: below)) m args below meth c T [] 0 0 := by
  have htop : (T.setVm s.vm).topJava?.isSome := X.here.top
  have hF : ((T.setVm s.vm).setFrames (.invoking m args :: below)).frames = .invoking m args :: below := State.frames_setFrames _ (State.cur_lt_of_top htop)
  obtain ⟨g₀, hg0⟩ := Option.isSome_iff_exists.mp htop
  obtain ⟨r, hr⟩ := State.topJava?_eq_some.mp hg0
  have hl9 : e.platform.stackLimits (T.setVm s.vm).me = e.platform.stackLimits s.me := X.limits
  have hb9 : (T.setVm s.vm).me.stackBytes = s.me.stackBytes := X.bytes
  refine ⟨X.admits, X.cas, X.clock, hF, ?_, X.hears, X.method, X.code, X.here, X.tail, X.warmed, ?_, ?_, ?_⟩
  · have h := X.room
    have hU : ((T.setVm s.vm).setFrames (.invoking m args :: below)).localsInUse = s.localsInUse := by
      rw [State.localsInUse_invoking hF (meth := meth) (c := c) X.method X.code, State.localsInUse_invoking X.frames X.method X.code]
    simp only [State.hasRoom, Bool.and_eq_true, decide_eq_true_eq] at h ⊢
    obtain ⟨⟨⟨⟨h1, h2, h3, h4, h5, h6⟩, h7⟩, h8⟩, h9⟩ := h
    rw [X.frames, List.length_cons] at h2 h3
    have q1 := X.heapSize
    have q2 := X.used
    simp only [hF, hU, List.length_cons, State.stackLimits_setFrames, State.stackBytes_setFrames, hl9, hb9]
    refine ⟨⟨⟨⟨by omega, by omega, by omega, by omega, by omega, h6⟩, ?_⟩, ?_⟩, X.book⟩
    · show T.heap.size + R'.cells ≤ e.platform.maxCells
      omega
    · show T.slotsUsed + R'.slots ≤ e.platform.maxSlots
      omega
  · rw [State.stackLimits_setFrames]; rfl
  · rw [State.stackBytes_setFrames]; rfl
  · refine ⟨?_, Nat.le_refl _, Nat.le_refl _, ?_, ?_, fun a c9 h9 => ⟨c9, h9, rfl, rfl, fun _ _ => rfl⟩⟩
    · obtain ⟨t, ht, -⟩ := State.frames_cons hr
      show T.setVm s.vm = { ((T.setVm s.vm).setFrames (.invoking m args :: below)).setFrames (T.setVm s.vm).frames with heap := T.heap, slotsUsed := T.slotsUsed }
      rw [State.setFrames_setFrames, State.setFrames_self ht]
      rfl
    · show T.slotsUsed = T.slotsUsed + ((T.heap.toList.drop T.heap.size).map (·.slots.size)).sum
      rw [List.drop_eq_nil_of_le (Nat.le_of_eq Array.length_toList)]
      rfl
    · show ((T.heap.toList.drop T.heap.size).map (·.slots.size)).sum ≤ 0
      rw [List.drop_eq_nil_of_le (Nat.le_of_eq Array.length_toList)]
      exact Nat.le_refl _
/-- 'throw new E()': new; dup; invokespecial; athrow -/
theorem vx_throw0 {cc : ByteArray} {pc : Nat} (hexec : p.tables.exec = Jvm.exec) (hb : c.code = cc) (hl : l.stackTraces = false) {own cls : String} {names : List String} {ik ic mc ms : Nat} {A : Nat → Prop}
    (hown : s.vm.findClass own = some m.cls) (hcls : Bundle.fit cls = true) (hnames : ∀ n ∈ names, Bundle.fit n = true)
    (hk : (Cond.classLink own ik cls).before args s = true) (hini : (Cond.initialized cls).before args s = true) (hat : ∀ w ∈ vx_at0 own ic cls names, w.before args s = true)
    (hgood : ∀ w ∈ Cond.classLink own ik cls :: Cond.initialized cls :: vx_at0 own ic cls names, vx_ot w = true)
    (hU : vx_Zq Bundle.tN "UNASSIGNED_STACK" Bundle.steD A s s.heap) (hN : vx_Zq Bundle.tN "SUPPRESSED_SENTINEL" Bundle.listD A s s.heap) (hS : va_S A s.heap H locs) (hsize : ls.size = c.maxLocals)
    (d0 : decode cc pc = .ok (.new ik, 3)) (d3 : decode cc (pc + 3) = .ok (.dup, 1)) (d4 : decode cc (pc + 4) = .ok (.invokespecial ic, 3)) (d7 : decode cc (pc + 7) = .ok (.athrow, 1))
    (hout : ∀ x ∈ c.exceptionTable.toList, covers x (pc + 7) = false)
    (hRframes : names.length + 3 < R.frames) (hRlocals : (rest.map fun v => v.category).sum + (13 * (names.length + 1) + 42) ≤ R.locals) (hRcells : cells + 1 ≤ R.cells) (hRslots : slots + 6 ≤ R.slots) (hlocks : meth.locks = false)
    (hx : ∀ t : State, s.vm.Alike t.vm → H.size ≤ t.heap.size → (∀ q : Nat, q < H.size → t.heap[q]? = H[q]?) → XC cls s t)
    (hf : ∀ z ∈ locs, free z.base) (hc : cells + 1 ≤ mc) (hs : slots + 6 ≤ ms) :
    W p l e R s m args below meth c H locs cells slots (vx_MQ below Qc XC args s mc ms free) (F0 m pc ls rest) := by
  intro T hT X
  have htr : e.platform.stackTraces = false := (show e.platform.stackTraces = l.stackTraces by rw [X.admits.platform]).trans hl
  have Y := vx_rebase X (R' := { frames := R.frames, locals := R.locals, cells := 1, slots := 6 }) (Nat.le_refl _) (Nat.le_refl _) hRcells hRslots
  obtain ⟨s', hA⟩ : ∃ z, z = (T.setVm s.vm).setFrames (.invoking m args :: below) := ⟨_, rfl⟩
  rw [← hA] at Y
  have hvm : s'.vm = s.vm := by rw [hA]; rfl
  have hhp : s'.heap = H := by rw [hA]; exact hT
  have hW0 : s.WarmedH s'.vm := by rw [hvm]; exact State.WarmedH.refl s
  have hat' : ∀ w ∈ vx_at0 own ic cls names, w.before args s' = true := fun w hw => vx_ot_at hW0 hvm.symm (hgood w (List.mem_cons_of_mem _ (List.mem_cons_of_mem _ hw))) (hat w hw)
  have hk' : (Cond.classLink own ik cls).before args s' = true := vx_ot_at hW0 hvm.symm (hgood _ List.mem_cons_self) hk
  have hini' : (Cond.initialized cls).before args s' = true := vx_ot_at hW0 hvm.symm (hgood _ (List.mem_cons_of_mem _ List.mem_cons_self)) hini
  have hU' : vx_Zq Bundle.tN "UNASSIGNED_STACK" Bundle.steD A s' s'.heap := by rw [hhp]; exact vx_Zq.moved hW0.alike (hU.kept hS.2.1)
  have hN' : vx_Zq Bundle.tN "SUPPRESSED_SENTINEL" Bundle.listD A s' s'.heap := by rw [hhp]; exact vx_Zq.moved hW0.alike (hN.kept hS.2.1)
  have h : ∀ w ∈ Bundle.ownAtoms0 own ic cls names, w.before args s' = true := vx_own hat' (vx_isRefq hU'.1) (vx_isRefq hN'.1) hU'.2.word hN'.2.word
  have hown' : s'.vm.findClass own = some m.cls := by rw [hvm]; exact hown
  have hins : (Cond.instantiable cls 6).before args s' = true := h _ (by simp [Bundle.ownAtoms0])
  obtain ⟨vm₁, cX, kX, hfX, hkX, -, -, X₁, st1⟩ := Y.newCold hexec (own := own) (C := cls) (index := ik) (n := 6) hown' hk' hins hini'
    (g := F0 m pc ls rest) rfl (by rw [hb]; exact d0) (Nat.le_refl _) (Nat.le_refl _)
  generalize hT1 : (T.setVm vm₁).pushCell { cls := cX, slots := kX.instanceTypes.map defaultValue, vm := .none } = T1 at X₁ st1
  have hcat : (Value.ref T.heap.size).category = 1 := rfl
  have hcellA : T1.heap[T.heap.size]? = some (freshCell cX kX) := by rw [← hT1]; exact State.heap_pushCell_size _ _
  have d3' : decode c.code (pc + 3) = .ok (.dup, 1) := by rw [hb]; exact d3
  obtain ⟨U, hsteps, hrun, hend, hW, hsame, ce, hce, hO⟩ := X₁.ctorThrow0 hexec htr (own := own) (cls := cls) (names := names) (ic := ic) hown' hcls hnames h (fun x hx => nomatch hx) hfX hkX hcellA (by rw [hhp, hT]; exact Nat.le_refl _)
    (g := { method := m, pc := pc + 4, locals := ls, stack := .ref T.heap.size :: .ref T.heap.size :: rest, locked := none }) rfl hsize rfl rfl (rest := rest) rfl
    (by rw [hb]; exact d4) (by rw [hb]; exact d7) hout hRframes (by simp only [List.map_cons, List.sum_cons, hcat]; omega) hlocks
  obtain ⟨f1, f2⟩ := vx_frame hsame
  rw [hhp] at f1 f2
  have hWs : s.WarmedH U.vm := State.WarmedH.trans hW0 hW
  have hcl : s.vm.findClass cls = some ce.cls := by
    have h9 := hO.cls
    rw [hvm] at h9
    exact h9
  have hall : s.sameButNew ({ U with vm := s.vm } : State) locs mc ms := by
    subst hA
    obtain ⟨e1, e2⟩ := hsame
    rw [State.setFrames_setFrames] at e1
    have h2 : (T.setVm s.vm).sameButNew ({ U with vm := s.vm } : State) [] (0 + 1) (0 + 6) := ⟨e1, e2⟩
    have h3 := X.same.trans h2
    rw [List.append_nil] at h3
    exact h3.mono hc hs
  refine ⟨U, ?_, .threw T.heap.size, hrun, hend, Or.inr ⟨T.heap.size, rfl, cls, ce, locs, hx U hWs.alike f1 (fun q hq => f2 q hq (fun z hz => nomatch hz)), hce, hO.vm, hcl, hWs, hall, hf⟩⟩
  refine st1 _ ?_
  show Steps p.tables e below (T1.setTop { method := m, pc := pc + 3, locals := ls, stack := .ref T.heap.size :: rest, locked := none }) _
  jvm_step X₁.here [X₁.here.top, hexec, d3', Value.category]
  exact hsteps
/-- 'throw new E("text")': new; dup; ldc; invokespecial; athrow -/
theorem vx_throwS {cc : ByteArray} {pc : Nat} (hexec : p.tables.exec = Jvm.exec) (hb : c.code = cc) (hl : l.stackTraces = false) {own cls text : String} {names : List String} {ik is ic mc ms sa : Nat} {A : Nat → Prop}
    (hown : s.vm.findClass own = some m.cls) (hcls : Bundle.fit cls = true) (hnames : ∀ n ∈ names, Bundle.fit n = true)
    (hk : (Cond.classLink own ik cls).before args s = true) (hini : (Cond.initialized cls).before args s = true) (hstr : vk_R own is text sa s) (hat : ∀ w ∈ vx_atS own ic cls names, w.before args s = true)
    (hgood : ∀ w ∈ Cond.classLink own ik cls :: Cond.initialized cls :: vx_atS own ic cls names, vx_ot w = true)
    (hU : vx_Zq Bundle.tN "UNASSIGNED_STACK" Bundle.steD A s s.heap) (hN : vx_Zq Bundle.tN "SUPPRESSED_SENTINEL" Bundle.listD A s s.heap) (hS : va_S A s.heap H locs) (hsize : ls.size = c.maxLocals)
    (d0 : decode cc pc = .ok (.new ik, 3)) (d3 : decode cc (pc + 3) = .ok (.dup, 1)) (d4 : decode cc (pc + 4) = .ok (.ldc is, 2)) (d6 : decode cc (pc + 6) = .ok (.invokespecial ic, 3)) (d9 : decode cc (pc + 9) = .ok (.athrow, 1))
    (hout : ∀ x ∈ c.exceptionTable.toList, covers x (pc + 9) = false)
    (hRframes : names.length + 3 < R.frames) (hRlocals : (rest.map fun v => v.category).sum + (13 * (names.length + 1) + 43) ≤ R.locals) (hRcells : cells + 1 ≤ R.cells) (hRslots : slots + 6 ≤ R.slots) (hlocks : meth.locks = false)
    (hx : ∀ t : State, s.vm.Alike t.vm → H.size ≤ t.heap.size → (∀ q : Nat, q < H.size → t.heap[q]? = H[q]?) → XC cls s t)
    (hf : ∀ z ∈ locs, free z.base) (hc : cells + 1 ≤ mc) (hs : slots + 6 ≤ ms) :
    W p l e R s m args below meth c H locs cells slots (vx_MQ below Qc XC args s mc ms free) (F0 m pc ls rest) := by
  intro T hT X
  have htr : e.platform.stackTraces = false := (show e.platform.stackTraces = l.stackTraces by rw [X.admits.platform]).trans hl
  have Y := vx_rebase X (R' := { frames := R.frames, locals := R.locals, cells := 1, slots := 6 }) (Nat.le_refl _) (Nat.le_refl _) hRcells hRslots
  obtain ⟨s', hA⟩ : ∃ z, z = (T.setVm s.vm).setFrames (.invoking m args :: below) := ⟨_, rfl⟩
  rw [← hA] at Y
  have hvm : s'.vm = s.vm := by rw [hA]; rfl
  have hhp : s'.heap = H := by rw [hA]; exact hT
  have hW0 : s.WarmedH s'.vm := by rw [hvm]; exact State.WarmedH.refl s
  have hat' : ∀ w ∈ vx_atS own ic cls names, w.before args s' = true := fun w hw => vx_ot_at hW0 hvm.symm (hgood w (List.mem_cons_of_mem _ (List.mem_cons_of_mem _ hw))) (hat w hw)
  have hk' : (Cond.classLink own ik cls).before args s' = true := vx_ot_at hW0 hvm.symm (hgood _ List.mem_cons_self) hk
  have hini' : (Cond.initialized cls).before args s' = true := vx_ot_at hW0 hvm.symm (hgood _ (List.mem_cons_of_mem _ List.mem_cons_self)) hini
  have hU' : vx_Zq Bundle.tN "UNASSIGNED_STACK" Bundle.steD A s' s'.heap := by rw [hhp]; exact vx_Zq.moved hW0.alike (hU.kept hS.2.1)
  have hN' : vx_Zq Bundle.tN "SUPPRESSED_SENTINEL" Bundle.listD A s' s'.heap := by rw [hhp]; exact vx_Zq.moved hW0.alike (hN.kept hS.2.1)
  have h : ∀ w ∈ Bundle.ownAtoms own ic cls names, w.before args s' = true := vx_own hat' (vx_isRefq hU'.1) (vx_isRefq hN'.1) hU'.2.word hN'.2.word
  have hown' : s'.vm.findClass own = some m.cls := by rw [hvm]; exact hown
  have hins : (Cond.instantiable cls 6).before args s' = true := h _ (by simp [Bundle.ownAtoms])
  obtain ⟨vm₁, cX, kX, hfX, hkX, -, -, X₁, st1⟩ := Y.newCold hexec (own := own) (C := cls) (index := ik) (n := 6) hown' hk' hins hini'
    (g := F0 m pc ls rest) rfl (by rw [hb]; exact d0) (Nat.le_refl _) (Nat.le_refl _)
  generalize hT1 : (T.setVm vm₁).pushCell { cls := cX, slots := kX.instanceTypes.map defaultValue, vm := .none } = T1 at X₁ st1
  have hcat : (Value.ref T.heap.size).category = 1 := rfl
  have hcellA : T1.heap[T.heap.size]? = some (freshCell cX kX) := by rw [← hT1]; exact State.heap_pushCell_size _ _
  have d3' : decode c.code (pc + 3) = .ok (.dup, 1) := by rw [hb]; exact d3
  have d4' : decode c.code (pc + 4) = .ok (.ldc is, 2) := by rw [hb]; exact d4
  have hstr' : vk_R own is text sa s' := vk_R.warm hW0 hstr
  obtain ⟨U, hsteps, hrun, hend, hW, hsame, ce, hce, hO⟩ := X₁.ctorThrowS hexec htr (own := own) (cls := cls) (names := names) (ic := ic) hown' hcls hnames h (fun x hx => nomatch hx) hfX hkX hcellA (by rw [hhp, hT]; exact Nat.le_refl _) (msg := .ref sa) rfl
    (g := { method := m, pc := pc + 6, locals := ls, stack := .ref sa :: .ref T.heap.size :: .ref T.heap.size :: rest, locked := none }) rfl hsize rfl rfl (rest := rest) rfl
    (by rw [hb]; exact d6) (by rw [hb]; exact d9) hout hRframes (by simp only [List.map_cons, List.sum_cons, hcat]; omega) hlocks
  obtain ⟨f1, f2⟩ := vx_frame hsame
  rw [hhp] at f1 f2
  have hWs : s.WarmedH U.vm := State.WarmedH.trans hW0 hW
  have hcl : s.vm.findClass cls = some ce.cls := by
    have h9 := hO.cls
    rw [hvm] at h9
    exact h9
  have hall : s.sameButNew ({ U with vm := s.vm } : State) locs mc ms := by
    subst hA
    obtain ⟨e1, e2⟩ := hsame
    rw [State.setFrames_setFrames] at e1
    have h2 : (T.setVm s.vm).sameButNew ({ U with vm := s.vm } : State) [] (0 + 1) (0 + 6) := ⟨e1, e2⟩
    have h3 := X.same.trans h2
    rw [List.append_nil] at h3
    exact h3.mono hc hs
  refine ⟨U, ?_, .threw T.heap.size, hrun, hend, Or.inr ⟨T.heap.size, rfl, cls, ce, locs, hx U hWs.alike f1 (fun q hq => f2 q hq (fun z hz => nomatch hz)), hce, hO.vm, hcl, hWs, hall, hf⟩⟩
  refine st1 _ ?_
  show Steps p.tables e below (T1.setTop { method := m, pc := pc + 3, locals := ls, stack := .ref T.heap.size :: rest, locked := none }) _
  jvm_step X₁.here [X₁.here.top, hexec, d3', Value.category]
  exact X₁.ldcString hexec (own := own) (text := text) (index := is) (a := sa) hown' hstr'.1 hstr'.2
    (g := { method := m, pc := pc + 4, locals := ls, stack := .ref T.heap.size :: .ref T.heap.size :: rest, locked := none }) rfl d4' _ hsteps
/-- 'throw new E("text")', the text by a wide index -/
theorem vx_throwSW {cc : ByteArray} {pc : Nat} (hexec : p.tables.exec = Jvm.exec) (hb : c.code = cc) (hl : l.stackTraces = false) {own cls text : String} {names : List String} {ik is ic mc ms sa : Nat} {A : Nat → Prop}
    (hown : s.vm.findClass own = some m.cls) (hcls : Bundle.fit cls = true) (hnames : ∀ n ∈ names, Bundle.fit n = true)
    (hk : (Cond.classLink own ik cls).before args s = true) (hini : (Cond.initialized cls).before args s = true) (hstr : vk_R own is text sa s) (hat : ∀ w ∈ vx_atS own ic cls names, w.before args s = true)
    (hgood : ∀ w ∈ Cond.classLink own ik cls :: Cond.initialized cls :: vx_atS own ic cls names, vx_ot w = true)
    (hU : vx_Zq Bundle.tN "UNASSIGNED_STACK" Bundle.steD A s s.heap) (hN : vx_Zq Bundle.tN "SUPPRESSED_SENTINEL" Bundle.listD A s s.heap) (hS : va_S A s.heap H locs) (hsize : ls.size = c.maxLocals)
    (d0 : decode cc pc = .ok (.new ik, 3)) (d3 : decode cc (pc + 3) = .ok (.dup, 1)) (d4 : decode cc (pc + 4) = .ok (.ldc_w is, 3)) (d7 : decode cc (pc + 7) = .ok (.invokespecial ic, 3)) (d10 : decode cc (pc + 10) = .ok (.athrow, 1))
    (hout : ∀ x ∈ c.exceptionTable.toList, covers x (pc + 10) = false)
    (hRframes : names.length + 3 < R.frames) (hRlocals : (rest.map fun v => v.category).sum + (13 * (names.length + 1) + 43) ≤ R.locals) (hRcells : cells + 1 ≤ R.cells) (hRslots : slots + 6 ≤ R.slots) (hlocks : meth.locks = false)
    (hx : ∀ t : State, s.vm.Alike t.vm → H.size + 1 ≤ t.heap.size → (∀ q : Nat, q < H.size → t.heap[q]? = H[q]?) → XC cls s t)
    (hf : ∀ z ∈ locs, free z.base) (hc : cells + 1 ≤ mc) (hs : slots + 6 ≤ ms) :
    W p l e R s m args below meth c H locs cells slots (vx_MQ below Qc XC args s mc ms free) (F0 m pc ls rest) := by
  intro T hT X
  have htr : e.platform.stackTraces = false := (show e.platform.stackTraces = l.stackTraces by rw [X.admits.platform]).trans hl
  have Y := vx_rebase X (R' := { frames := R.frames, locals := R.locals, cells := 1, slots := 6 }) (Nat.le_refl _) (Nat.le_refl _) hRcells hRslots
  obtain ⟨s', hA⟩ : ∃ z, z = (T.setVm s.vm).setFrames (.invoking m args :: below) := ⟨_, rfl⟩
  rw [← hA] at Y
  have hvm : s'.vm = s.vm := by rw [hA]; rfl
  have hhp : s'.heap = H := by rw [hA]; exact hT
  have hW0 : s.WarmedH s'.vm := by rw [hvm]; exact State.WarmedH.refl s
  have hat' : ∀ w ∈ vx_atS own ic cls names, w.before args s' = true := fun w hw => vx_ot_at hW0 hvm.symm (hgood w (List.mem_cons_of_mem _ (List.mem_cons_of_mem _ hw))) (hat w hw)
  have hk' : (Cond.classLink own ik cls).before args s' = true := vx_ot_at hW0 hvm.symm (hgood _ List.mem_cons_self) hk
  have hini' : (Cond.initialized cls).before args s' = true := vx_ot_at hW0 hvm.symm (hgood _ (List.mem_cons_of_mem _ List.mem_cons_self)) hini
  have hU' : vx_Zq Bundle.tN "UNASSIGNED_STACK" Bundle.steD A s' s'.heap := by rw [hhp]; exact vx_Zq.moved hW0.alike (hU.kept hS.2.1)
  have hN' : vx_Zq Bundle.tN "SUPPRESSED_SENTINEL" Bundle.listD A s' s'.heap := by rw [hhp]; exact vx_Zq.moved hW0.alike (hN.kept hS.2.1)
  have h : ∀ w ∈ Bundle.ownAtoms own ic cls names, w.before args s' = true := vx_own hat' (vx_isRefq hU'.1) (vx_isRefq hN'.1) hU'.2.word hN'.2.word
  have hown' : s'.vm.findClass own = some m.cls := by rw [hvm]; exact hown
  have hins : (Cond.instantiable cls 6).before args s' = true := h _ (by simp [Bundle.ownAtoms])
  obtain ⟨vm₁, cX, kX, hfX, hkX, -, -, X₁, st1⟩ := Y.newCold hexec (own := own) (C := cls) (index := ik) (n := 6) hown' hk' hins hini'
    (g := F0 m pc ls rest) rfl (by rw [hb]; exact d0) (Nat.le_refl _) (Nat.le_refl _)
  generalize hT1 : (T.setVm vm₁).pushCell { cls := cX, slots := kX.instanceTypes.map defaultValue, vm := .none } = T1 at X₁ st1
  have hcat : (Value.ref T.heap.size).category = 1 := rfl
  have hcellA : T1.heap[T.heap.size]? = some (freshCell cX kX) := by rw [← hT1]; exact State.heap_pushCell_size _ _
  have d3' : decode c.code (pc + 3) = .ok (.dup, 1) := by rw [hb]; exact d3
  have d4' : decode c.code (pc + 4) = .ok (.ldc_w is, 3) := by rw [hb]; exact d4
  have hstr' : vk_R own is text sa s' := vk_R.warm hW0 hstr
  obtain ⟨U, hsteps, hrun, hend, hW, hsame, ce, hce, hO⟩ := X₁.ctorThrowS hexec htr (own := own) (cls := cls) (names := names) (ic := ic) hown' hcls hnames h (fun x hx => nomatch hx) hfX hkX hcellA (by rw [hhp, hT]; exact Nat.le_refl _) (msg := .ref sa) rfl
    (g := { method := m, pc := pc + 7, locals := ls, stack := .ref sa :: .ref T.heap.size :: .ref T.heap.size :: rest, locked := none }) rfl hsize rfl rfl (rest := rest) rfl
    (by rw [hb]; exact d7) (by rw [hb]; exact d10) hout hRframes (by simp only [List.map_cons, List.sum_cons, hcat]; omega) hlocks
  obtain ⟨f1, f2⟩ := vx_frame hsame
  rw [hhp] at f1 f2
  have hWs : s.WarmedH U.vm := State.WarmedH.trans hW0 hW
  have hcl : s.vm.findClass cls = some ce.cls := by
    have h9 := hO.cls
    rw [hvm] at h9
    exact h9
  have f9 : H.size + 1 ≤ U.heap.size := by
    have h9 := (Array.getElem?_eq_some_iff.mp hce).1
    rw [hT] at h9
    exact h9
  have hall : s.sameButNew ({ U with vm := s.vm } : State) locs mc ms := by
    subst hA
    obtain ⟨e1, e2⟩ := hsame
    rw [State.setFrames_setFrames] at e1
    have h2 : (T.setVm s.vm).sameButNew ({ U with vm := s.vm } : State) [] (0 + 1) (0 + 6) := ⟨e1, e2⟩
    have h3 := X.same.trans h2
    rw [List.append_nil] at h3
    exact h3.mono hc hs
  refine ⟨U, ?_, .threw T.heap.size, hrun, hend, Or.inr ⟨T.heap.size, rfl, cls, ce, locs, hx U hWs.alike f9 (fun q hq => f2 q hq (fun z hz => nomatch hz)), hce, hO.vm, hcl, hWs, hall, hf⟩⟩
  refine st1 _ ?_
  show Steps p.tables e below (T1.setTop { method := m, pc := pc + 3, locals := ls, stack := .ref T.heap.size :: rest, locked := none }) _
  jvm_step X₁.here [X₁.here.top, hexec, d3', Value.category]
  exact X₁.ldcStringW hexec (own := own) (text := text) (index := is) (a := sa) hown' hstr'.1 hstr'.2
    (g := { method := m, pc := pc + 4, locals := ls, stack := .ref T.heap.size :: .ref T.heap.size :: rest, locked := none }) rfl d4' _ hsteps
end Ends
section Bodies
variable {l : Launch}
theorem vx_ofW {y : MethodName} {ws ws' : List Cond} {rm : Room} {Pc : Array Value → State → Prop} {Qc : Array Value → State → Outcome → State → Prop} {XC : String → State → State → Prop} {mc ms : Nat} {free : Addr → Prop} {cc : ByteArray} {maxL : Nat} {ret : Option FieldType}
    (hy : plainName y.cls = true) (hw : ws = Cond.code y cc maxL ret :: ws')
    (body : ∀ p e s m args below meth c s₁, BodyLoose p l y (headSpec ws rm) cc maxL ret e s m args below meth c s₁ → c.maxLocals = maxL → (∀ x ∈ c.exceptionTable.toList, False) → Pc args s →
      W p l e (headSpec ws rm).room s m args below meth c s.heap [] 0 0 (vx_MQ below Qc XC args s mc ms free) (entryFrame m args maxL)) : vx_Met l y ws rm Pc Qc XC mc ms free := by
  refine MetFree.of_bodyS (code := cc) (maxLocals := maxL) (ret := ret) hy ?_ ?_
  · intro args s m h hn
    obtain ⟨meth, c, h1, h2, h3, h4, h5, h6, -, -⟩ := Cond.code_spec hn (atoms_spec (ws := ws) h _ (by rw [hw]; exact List.mem_cons_self))
    exact ⟨meth, c, h1, h2, h3, h4, h5, h6⟩
  · intro p e s m args below meth c s₁ B hml hP _
    have hh0 : s₁.heap = s.heap := by rw [B.state]; rfl
    have ht : ∀ x ∈ c.exceptionTable.toList, False := by
      obtain ⟨meth9, c9, h1, h2, -, -, -, -, h7, -⟩ := Cond.code_spec B.named (atoms_spec (ws := ws) B.pre _ (by rw [hw]; exact List.mem_cons_self))
      cases Option.some.inj (h1.symm.trans B.method)
      cases Option.some.inj (h2.symm.trans (Stand.of_body B).code)
      intro x hx
      rw [Array.isEmpty_iff.mp h7] at hx
      cases hx
    obtain ⟨t, a1, o, b1, b2, b3⟩ := body p e s m args below meth c s₁ B hml ht hP s₁ hh0 (Stand.of_body B)
    exact ⟨t, o, a1, b1, b2, b3⟩
/-- the table of a body with handlers -/
theorem vx_table {p : Program} {x y : MethodName} {S : Spec} {cc bytes : ByteArray} {maxL maxL' : Nat} {ret ret' : Option FieldType} {e : Env} {s s₁ : State} {m : MethodId} {args : Array Value} {below : List Frame} {meth : Method} {c : Code} {hh : List (Nat × Nat × Nat × Nat)}
    (B : BodyLoose p l y S cc maxL ret e s m args below meth c s₁) (h : (Cond.codeWith y bytes maxL' ret' hh).before args s = true) : c.exceptionTable.toList = tableOf hh := by
  obtain ⟨m9, meth9, c9, hn9, h1, h2, -, -, h6, -⟩ := Cond.codeWith_spec h
  cases Option.some.inj (hn9.symm.trans B.named)
  cases Option.some.inj (h1.symm.trans B.method)
  cases Option.some.inj (h2.symm.trans (Stand.of_body B).code)
  rw [← h6, table_eq]
end Bodies
end VXA
/-! ===== END ===== -/
/-! ===== BEGIN a static call of a method with an exception table ===== -/
section VXS
variable {p : Program} {l : Launch} {e : Env} {R : Room} {s : State} {m : MethodId} {args : Array Value} {below : List Frame} {meth : Method} {c : Code} {T : State} {H : Heap} {locs : List Loc} {cells slots : Nat}
abbrev vx_CSW (R : Room) (s : State) (args : Array Value) (own : String) (index : Nat) (y : MethodName) (bytes : ByteArray) (maxL : Nat) (ret : Option FieldType) (hh : List (Nat × Nat × Nat × Nat)) (ws : List Cond) (rm : Room) (mc ms n : Nat) : Prop :=
  (rm.cells = mc ∧ rm.slots = ms ∧ rm.frames + 1 ≤ R.frames ∧ 8 + (maxL + 11) + rm.locals ≤ R.locals ∧ (∀ w ∈ ws, ∀ (a' : Array Value) (U : State), s.WarmedH U.vm → w.before a' U = true) ∧ Cond.codeWith y bytes maxL ret hh ∈ ws) ∧
  (Cond.codeWith y bytes maxL ret hh).before args s = true ∧ (Cond.initialized y.cls).before args s = true ∧ (y.cls ≠ "java/lang/invoke/MethodHandle" ∧ y.cls ≠ "java/lang/invoke/VarHandle") ∧
  (∀ sig, parseMethodDescriptor y.desc = some sig → n = sig.parameters.length) ∧ (Cond.methodLink own index y).before args s = true ∧ (Cond.static y).before args s = true
theorem vx_cwSW {own : String} {index maxL mc ms : Nat} {y : MethodName} {bytes : ByteArray} {ret : Option FieldType} {hh : List (Nat × Nat × Nat × Nat)} {Ts ws ws' : List Cond} {rm : Room} (n : Nat) (ht : ∀ w ∈ Ts, w.before args s = true) (hT : GoodIn Ts (va_wsS own index y ws)) (hw : ws = Cond.codeWith y bytes maxL ret hh :: ws') (hrc : rm.cells = mc) (hrs : rm.slots = ms)
    (hd : y.cls ≠ "java/lang/invoke/MethodHandle" ∧ y.cls ≠ "java/lang/invoke/VarHandle" ∧ (parseMethodDescriptor y.desc).map (fun d => d.parameters.length) = some n) (hR : rm.frames + 1 ≤ R.frames ∧ 8 + (maxL + 11) + rm.locals ≤ R.locals) :
    vx_CSW R s args own index y bytes maxL ret hh ws rm mc ms n := by
  have ok : ∀ w ∈ va_wsS own index y ws, w.before args s = true := fun w h => ht w (hT w h).1
  have hG : GoodIn Ts ws := fun w h => hT w (by unfold va_wsS; exact List.mem_append_right _ h)
  have hc : Cond.codeWith y bytes maxL ret hh ∈ ws := by rw [hw]; exact List.mem_cons_self
  refine ⟨⟨hrc, hrs, hR.1, hR.2, pay_in ht hG, hc⟩, ht _ (hG _ hc).1, ok _ (by simp [va_wsS]), ⟨hd.1, hd.2.1⟩, fun sig h => ?_, ok _ (by simp [va_wsS]), ok _ (by simp [va_wsS])⟩
  have h2 := hd.2.2
  rw [h] at h2
  exact (Option.some.inj h2).symm
theorem vx_callSW (X : Stand p l e R s m args below meth c T locs cells slots) (hexec : p.tables.exec = Jvm.exec) {own : String} {index : Nat} {y : MethodName} {bytes : ByteArray} {maxL : Nat} {ret : Option FieldType} {hh : List (Nat × Nat × Nat × Nat)}
    (hown : s.vm.findClass own = some m.cls) (hlink : (Cond.methodLink own index y).before args s = true) (hstat : (Cond.static y).before args s = true) (hinit : (Cond.initialized y.cls).before args s = true)
    (hcode : (Cond.codeWith y bytes maxL ret hh).before args s = true) (hy : y.cls ≠ "java/lang/invoke/MethodHandle" ∧ y.cls ≠ "java/lang/invoke/VarHandle")
    {W9 : Nat} {Pre : Pt → Array Value → Prop} {Post : Pt → Array Value → Option Value → Pt → Prop} (hK : Back l R p e below s args y 3 W9 Pre Post)
    {g : JFrame} (hg : g.method = m) (hsize : g.locals.size = c.maxLocals) {argsL rest : List Value} (hlen : ∀ sig, parseMethodDescriptor y.desc = some sig → argsL.length = sig.parameters.length)
    (hstack : g.stack = argsL.reverse ++ rest) (hW : 2 * g.monitorRoom + (rest.map fun v => v.category).sum ≤ W9) (hdg : decode c.code g.pc = .ok (.invokestatic index, 3))
    (hpre : ∀ vm₁, s.WarmedH vm₁ → Pre ⟨T.setVm vm₁, locs, cells, slots⟩ argsL.toArray) :
    ∃ (v : Option Value) (vm₁ : Vm) (B : Pt), s.WarmedH vm₁ ∧ Stand p l e R s m args below meth c B.U B.locs B.cells B.slots ∧ Post ⟨T.setVm vm₁, locs, cells, slots⟩ argsL.toArray v B ∧
      ∀ target, Steps p.tables e below (B.U.setTop { g with pc := g.pc + 3, stack := v.toList ++ rest }) target → Steps p.tables e below (T.setTop g) target := by
  obtain ⟨mk, methM, cM, hnamed, hmethM, -, -, -, -, -, -, hsigM⟩ := Cond.codeWith_spec hcode
  have hstatic : methM.isStatic = true := Cond.static_spec hnamed hmethM hstat
  obtain ⟨kP, hkP, -⟩ := className_of_methodNamed hnamed
  have hinitP : kP.init = .initialized := Cond.initialized_spec (findClass_of_methodNamed hnamed) hkP hinit
  obtain ⟨vm₁, X₁, hstep₁⟩ := X.invokestatic hexec hown hlink hnamed hmethM hstatic hkP hinitP hy (g := g) hg (argsL := argsL) (rest := rest) (hlen _ hsigM) hstack hdg
  obtain ⟨v, B, X', hpost, hsteps⟩ := hK m meth c ⟨T.setVm vm₁, locs, cells, slots⟩ { g with stack := rest } (.invokestatic index) mk argsL.toArray X₁ hg hsize hdg hW (X₁.named hnamed) (hpre vm₁ X₁.warmed)
  exact ⟨v, vm₁, B, X₁.warmed, X', hpost, fun target h => hstep₁ _ fun acts => by rw [doInvoke_state]; exact hsteps.trans h⟩
theorem vx_runSW {y : MethodName} {bytes cc : ByteArray} {maxL nL mc ms n index : Nat} {ret : Option FieldType} {hh : List (Nat × Nat × Nat × Nat)} {ws : List Cond} {rm : Room} {Pc : Array Value → State → Prop} {Qc : Array Value → State → Outcome → State → Prop} {free : Addr → Prop} {Ts : List Cond} {own : String} {As rest : List Value} {g : JFrame}
    (S : CallFix p m c cc nL s args Ts own) (hM : Met l y ws rm Pc Qc mc ms free) (cw : vx_CSW R s args own index y bytes maxL ret hh ws rm mc ms n) (hp : PreS s H Pc As)
    (hg : g.method = m) (hn : As.length = n) (hsize : g.locals.size = nL) (hstack : g.stack = As.reverse ++ rest) (hW : 2 * g.monitorRoom + (rest.map fun v => v.category).sum ≤ 8) (hdg : decode cc g.pc = .ok (.invokestatic index, 3)) (hf : cells + mc ≤ R.cells ∧ slots + ms ≤ R.slots) :
    va_Run p l e R s m args below meth c H locs cells slots mc ms g rest (Qc As.toArray) (free) := by
  obtain ⟨⟨hrc, hrs, hfr, hlo, hws, hcw⟩, hcode, hini, hy, hlen, hl, hstt⟩ := cw
  have hK : Back l R p e below s args y 3 8 (PreOf R mc ms Pc) (PostOf Qc mc ms free) := va_backW (hh := hh) (bytes := bytes) (maxL := maxL) (ret := ret) hM hp.1 hrc hrs hfr hlo hws hcw (fun a' U hW => word_at hW (Or.inl (by first | rfl | simp [Cond.onTables, Cond.keeps, Cond.steady])) hini)
  obtain ⟨hx, hb, hml, ho, -⟩ := S
  intro T hT X
  obtain ⟨v, vm₁, ⟨U', l2, c2, s2⟩, hW₁, X', ⟨g', mk, t, L, e1, e2, hq, h1, hL, h2, h3⟩, st⟩ := vx_callSW X hx (hh := hh) (bytes := bytes) (maxL := maxL) (ret := ret) ho hl hstt hini hcode hy hK hg (hsize.trans hml.symm) (argsL := As) (rest := rest) (fun sig h => hn.trans (hlen sig h)) hstack hW (by rw [hb]; exact hdg)
    (fun vm₁ hW₁ => ⟨hf.1, hf.2, hp.2 (T.setVm vm₁) hT hW₁⟩)
  dsimp only [Pt.U, Pt.locs, Pt.cells, Pt.slots] at X' e1 e2 h1 h2 h3 st
  subst h1; subst h2; subst h3
  exact ⟨v, (T.setVm vm₁).calling g' mk As.toArray, t, U', L, hT, X', hL, e1, e2, hq, st⟩
/-- not caught here, past rows that name other classes: it goes on to the caller -/
theorem vx_outP {p : Program} {l : Launch} {e : Env} {R : Room} {s : State} {m : MethodId} {args : Array Value} {below : List Frame} {meth : Method} {c : Code} {H : Heap} {locs : List Loc} {cells slots : Nat} {free : Addr → Prop} {ls : Array Slot} {rest : List Value} {Qc : Array Value → State → Outcome → State → Prop} {XC : String → State → State → Prop}
    {pc : Nat} {own E : String} {ce : Cell} {q : Addr} {mc ms : Nat} (hown : s.vm.findClass own = some m.cls) (hlocks : meth.locks = false)
    (hpass : ∀ z ∈ c.exceptionTable.toList, covers z pc = false ∨ (z.catchType ≠ 0 ∧ ∃ nm : String, (Cond.classLink own z.catchType nm).before args s = true ∧ va_Nc E nm s)) (hcell : H[q]? = some ce) (hv : ce.vm = .none) (hcl : s.vm.findClass E = some ce.cls)
    (hx : ∀ t : State, t.heap = H → s.vm.Alike t.vm → XC E s t) (hf : ∀ z ∈ locs, free z.base) (hc : cells ≤ mc) (hs : slots ≤ ms) :
    vx_W p l e R s m args below meth c H locs cells slots (vx_MQ below Qc XC args s mc ms free) (F0 m pc ls rest) q := by
  intro T hT X
  have hpl : e.platform.magicAccessors = ({} : Platform).magicAccessors := by rw [X.admits.platform]
  obtain ⟨vm', hW', X', st⟩ := X.outThrough hlocks q (g := F0 m pc ls rest) rfl rfl rfl (cell := ce) (by rw [hT]; exact hcell) (by rw [hv]; rfl)
    (by obtain ⟨k9, h9, -⟩ := Vm.findClass_spec hcl; exact ⟨k9, h9⟩) (fun z hz => by
      rcases hpass z hz with h | ⟨hz0, nm, hl1, hn1⟩
      · exact Or.inl h
      · obtain ⟨c6, hc6, hcl6⟩ := Cond.classLink_spec hown hl1 e.platform hpl
        obtain ⟨a8, b8, h1, h2, h3⟩ := hn1
        cases Option.some.inj (h1.symm.trans hcl)
        cases Option.some.inj (h2.symm.trans hc6)
        exact Or.inr ⟨hz0, _, hcl6, h3⟩)
  obtain ⟨g₀, hfr⟩ := X'.frames_eq
  have hcell9 : ((T.setVm vm').setFrames (.throwing q :: below)).heap[q]? = some ce := by
    show T.heap[q]? = some ce
    rw [hT]; exact hcell
  have hend : Ended ((T.setVm vm').setFrames (.throwing q :: below)) below (.threw q) := State.frames_setFrames _ (State.cur_lt_of_frames hfr)
  refine ⟨(T.setVm vm').setFrames (.throwing q :: below), ?_, .threw q, X'.here.running, hend, Or.inr ⟨q, rfl, E, ce, locs, hx _ hT (X'.ends _).1.alike, hcell9, hv, hcl, (X'.ends _).1, (X'.ends _).2.mono hc hs, hf⟩⟩
  rw [X.pushThrowing_eq]
  exact st
/-- a thing of a world lies in the heap -/
theorem vx_lt {D : va_G} {cl : List vw_C} {ws : va_W} {H1 : Heap} (h : va_P D cl ws H1) {k : Nat} {q : Nat × va_E} (hk : ws[k]? = some q) : q.1 < H1.size := (h k q hk).lt
end VXS
/-! ===== END ===== -/
/-! ===== BEGIN methods with a table of their own: called by a name, returning or throwing ===== -/
section VXH
/-! vx_backW, vx_callVX, vx_callSX, vx_callVW, vx_runVW, vx_runVX, vx_runSX, vx_ofWH follow the same proofs as their sisters above (Free/Laws.lean, Shelf42/LK1.lean); vx_outP calls Shelf42/NT130.lean (outThrough). -/
section
variable {l : Launch} {R : Room} {p : Program} {e : Env} {below : List Frame} {s : State} {sargs : Array Value} {y : MethodName} {len W9 : Nat}
theorem vx_backW {ws : List Cond} {rm : Room} {Pc : Array Value → State → Prop} {Qc : Array Value → State → Outcome → State → Prop} {XC : String → State → State → Prop} {mc ms : Nat} {free : Addr → Prop} {bytes : ByteArray} {maxL : Nat} {ret : Option FieldType} {hh : List (Nat × Nat × Nat × Nat)}
    (hM : vx_Met l y ws rm Pc Qc XC mc ms free) (hblind : FrameBlind Pc) (hrc : rm.cells = mc) (hrs : rm.slots = ms)
    (hframes : rm.frames + 1 ≤ R.frames) (hlocals : W9 + (maxL + 11) + rm.locals ≤ R.locals)
    (hws : ∀ w ∈ ws, ∀ a' U, s.WarmedH U.vm → w.before a' U = true) (hcode : Cond.codeWith y bytes maxL ret hh ∈ ws) (hinit : ∀ a' U, s.WarmedH U.vm → (Cond.initialized y.cls).before a' U = true) :
    vx_Back l R p e below s sargs y len W9 (PreOf R mc ms Pc) (PostOf Qc mc ms free) (vx_Post XC mc ms free) := by
  intro m meth c A g ig mk a X hg hsize hdg hW hn hp
  have h1 : (headSpec ws rm).pre.before a A.U = true := atoms_intro fun w hw => hws w hw _ _ X.warmed
  have h2 : (Cond.codeWith y bytes maxL ret hh).before a A.U = true := hws _ hcode _ _ X.warmed
  have h3 : (Cond.initialized y.cls).before a A.U = true := hinit _ _ X.warmed
  have h4 : A.cells + (headSpec ws rm).room.cells ≤ R.cells := by rw [show (headSpec ws rm).room.cells = mc from hrc]; exact hp.1
  have h5 : A.slots + (headSpec ws rm).room.slots ≤ R.slots := by rw [show (headSpec ws rm).room.slots = ms from hrs]; exact hp.2.1
  have hPc : Pc a (A.U.calling g mk a) := hblind _ _ _ _ hp.2.2
  obtain ⟨U, Ls, c0, s0⟩ := A
  dsimp only [Pt.U, Pt.locs, Pt.cells, Pt.slots] at h1 h2 h3 h4 h5 X hn hPc ⊢
  obtain ⟨m9, methY, cY, hn9, hmY, hcY, -, hlY, -⟩ := Cond.codeWith_spec h2
  cases Option.some.inj (hn9.symm.trans hn)
  obtain ⟨kY, hkY, -⟩ := className_of_methodNamed hn
  have hinitY : kY.init = .initialized := Cond.initialized_spec (findClass_of_methodNamed hn) hkY h3
  have h : At U g.method c below := by rw [hg]; exact X.here
  have hlocals9 : W9 + (maxL + 11) + (headSpec ws rm).room.locals ≤ R.locals := hlocals
  have happ : (headSpec ws rm).appliesLoose y e.platform (U.calling g mk a) = true :=
    Spec.appliesLoose_calling (g := g) h hdg hn hkY hinitY
      (X.room_calling (g := g) (R' := (headSpec ws rm).room) hsize hmY hcY hframes (by rw [hlY]; omega) h4 h5) h1
  obtain ⟨mid, hmid⟩ := h.above
  have hfr : (U.setTop g).frames = (.java g :: mid) ++ below := by rw [State.frames_setTop' g h.top, hmid]; rfl
  obtain ⟨o, s₂, hsteps, -, hend, hq⟩ := Steps.callFree hM p X.admits X.cas X.clock (acts := []) hfr happ hPc trivial
  have hq' : vx_Q Qc XC mc ms free a (U.calling g mk a) o s₂ := hq
  rw [State.frames_setTop' g h.top] at hend
  obtain ⟨g₀, hg0⟩ := Option.isSome_iff_exists.mp h.top
  obtain ⟨r, hr⟩ := State.topJava?_eq_some.mp hg0
  have hr' : (({ U with heap := s₂.heap, slotsUsed := s₂.slotsUsed } : State).setVm s₂.vm).frames = .java g₀ :: r := hr
  rcases hq' with ⟨hqc, L, hfe, hL⟩ | ⟨q, rfl, E, ce, L, hx, hce, hcv, hcl, hW₂, hsm, hL⟩
  · obtain ⟨⟨v, rfl⟩, hW₂, e2, q2, q3, q4, q5, q6⟩ := id hfe
    have e3 : s₂ = ({ (U.calling g mk a).setFrames s₂.frames with heap := s₂.heap, slotsUsed := s₂.slotsUsed } : State).setVm s₂.vm := by
      have : s₂ = ({ s₂ with vm := (U.calling g mk a).vm } : State).setVm s₂.vm := rfl
      rw [e2] at this
      exact this
    obtain ⟨c₂, i₂, len₂, hc₂, hd₂, hf₂⟩ := hend
    have hW' : U.WarmedH s₂.vm := hW₂
    have hcc : c₂ = c := by
      have h1 : s₂.code? g.method = U.code? g.method := by
        rw [State.code?_eq, State.code?_eq, hW'.alike.method?]
      exact Option.some.inj (hc₂.symm.trans (h1.trans h.code))
    subst hcc
    have hlen : len₂ = len := by rw [hdg] at hd₂; cases hd₂; rfl
    subst hlen
    have hs₂ : s₂ = (({ U with heap := s₂.heap, slotsUsed := s₂.slotsUsed } : State).setVm s₂.vm).setTop { g with pc := g.pc + len₂, stack := v.toList ++ g.stack } := by
      refine e3.trans ?_
      rw [hf₂, State.calling_eq h.top, State.setFrames_setFrames, State.setTop_of_frames _ hr', hr]
      rfl
    have hsame : U.sameButNew ({ U with heap := s₂.heap, slotsUsed := s₂.slotsUsed } : State) L mc ms := by
      refine ⟨?_, q2, q3, q4, q5, q6⟩
      obtain ⟨t, ht, -⟩ := State.frames_cons hr
      show ({ U with heap := s₂.heap, slotsUsed := s₂.slotsUsed } : State) = { U.setFrames U.frames with heap := s₂.heap, slotsUsed := s₂.slotsUsed }
      rw [State.setFrames_self ht]
    subst hg
    refine Or.inl ⟨v, ⟨(({ U with heap := s₂.heap, slotsUsed := s₂.slotsUsed } : State).setVm s₂.vm), Ls ++ L, c0 + mc, s0 + ms⟩,
      ⟨X.admits, X.cas, X.clock, X.frames, X.room, X.hears, X.method, X.code, (X.here.setHeapUsed s₂.heap s₂.slotsUsed).setVm hW'.alike, X.tail, State.WarmedH.trans X.warmed hW', X.limits, X.bytes, X.same.trans (hsame.setVm s.vm)⟩,
      ⟨g, mk, s₂, L, rfl, rfl, hqc, rfl, hL, rfl, rfl⟩, ?_⟩
    show Steps p.tables e below _ ((({ U with heap := s₂.heap, slotsUsed := s₂.slotsUsed } : State).setVm s₂.vm).setTop { g with pc := g.pc + len₂, stack := v.toList ++ g.stack })
    rw [← hs₂]
    exact hsteps
  · obtain ⟨e2, q2, q3, q4, q5, q6⟩ := id hsm
    have e3 : s₂ = ({ (U.calling g mk a).setFrames s₂.frames with heap := s₂.heap, slotsUsed := s₂.slotsUsed } : State).setVm s₂.vm := by
      have : s₂ = ({ s₂ with vm := (U.calling g mk a).vm } : State).setVm s₂.vm := rfl
      rw [e2] at this
      exact this
    have hf₂ : s₂.frames = .throwing q :: .java g :: U.frames.tail := hend
    have hW' : U.WarmedH s₂.vm := hW₂
    have hs₂ : s₂ = ((({ U with heap := s₂.heap, slotsUsed := s₂.slotsUsed } : State).setVm s₂.vm).setTop g).pushFrame (.throwing q) := by
      refine e3.trans ?_
      rw [hf₂, State.calling_eq h.top, State.setFrames_setFrames, State.pushFrame, State.frames_setTop _ hr', State.setTop_of_frames _ hr', State.setFrames_setFrames, hr]
      rfl
    have hsame : U.sameButNew ({ U with heap := s₂.heap, slotsUsed := s₂.slotsUsed } : State) L mc ms := by
      refine ⟨?_, q2, q3, q4, q5, q6⟩
      obtain ⟨t, ht, -⟩ := State.frames_cons hr
      show ({ U with heap := s₂.heap, slotsUsed := s₂.slotsUsed } : State) = { U.setFrames U.frames with heap := s₂.heap, slotsUsed := s₂.slotsUsed }
      rw [State.setFrames_self ht]
    subst hg
    refine Or.inr ⟨q, ⟨(({ U with heap := s₂.heap, slotsUsed := s₂.slotsUsed } : State).setVm s₂.vm), Ls ++ L, c0 + mc, s0 + ms⟩,
      ⟨X.admits, X.cas, X.clock, X.frames, X.room, X.hears, X.method, X.code, (X.here.setHeapUsed s₂.heap s₂.slotsUsed).setVm hW'.alike, X.tail, State.WarmedH.trans X.warmed hW', X.limits, X.bytes, X.same.trans (hsame.setVm s.vm)⟩,
      ⟨g, mk, s₂, L, E, ce, rfl, rfl, hx, hce, hcv, hcl, rfl, hL, rfl, rfl⟩, ?_⟩
    show Steps p.tables e below _ (((({ U with heap := s₂.heap, slotsUsed := s₂.slotsUsed } : State).setVm s₂.vm).setTop g).pushFrame (.throwing q))
    rw [← hs₂]
    exact hsteps
end
variable {p : Program} {l : Launch} {e : Env} {R : Room} {s : State} {m : MethodId} {args : Array Value} {below : List Frame} {meth : Method} {c : Code} {T : State} {H : Heap} {locs : List Loc} {cells slots : Nat}
theorem vx_callVX (X : Stand p l e R s m args below meth c T locs cells slots) (hexec : p.tables.exec = Jvm.exec) {own C : String} {index : Nat} {y : MethodName} {bytes : ByteArray} {maxL : Nat} {ret : Option FieldType} {hh : List (Nat × Nat × Nat × Nat)}
    (hown : s.vm.findClass own = some m.cls) (hlink : (Cond.methodLink own index y).before args s = true) (hinst : (Cond.instanceMethod y).before args s = true) (hsel : (Cond.selects C y y).before args s = true)
    (hcode : (Cond.codeWith y bytes maxL ret hh).before args s = true) (hy : y.cls ≠ "java/lang/invoke/MethodHandle" ∧ y.cls ≠ "java/lang/invoke/VarHandle")
    {W9 : Nat} {Pre : Pt → Array Value → Prop} {Post : Pt → Array Value → Option Value → Pt → Prop} {PostX : Pt → Array Value → Addr → Pt → Prop} (hK : vx_Back l R p e below s args y 3 W9 Pre Post PostX)
    {b : Addr} {cellB : Cell} (hcell : T.heap[b]? = some cellB) (hobj : cellB.vm.isStatics = false) (hcls : s.vm.findClass C = some cellB.cls)
    {g : JFrame} (hg : g.method = m) (hsize : g.locals.size = c.maxLocals) {argsL rest : List Value} (hlen : ∀ sig, parseMethodDescriptor y.desc = some sig → argsL.length = sig.parameters.length)
    (hstack : g.stack = argsL.reverse ++ .ref b :: rest) (hW : 2 * g.monitorRoom + (rest.map fun v => v.category).sum ≤ W9) (hdg : decode c.code g.pc = .ok (.invokevirtual index, 3))
    (hpre : ∀ vm₁, s.WarmedH vm₁ → Pre ⟨T.setVm vm₁, locs, cells, slots⟩ (Value.ref b :: argsL).toArray) :
    (∃ (v : Option Value) (vm₁ : Vm) (B : Pt), s.WarmedH vm₁ ∧ Stand p l e R s m args below meth c B.U B.locs B.cells B.slots ∧ Post ⟨T.setVm vm₁, locs, cells, slots⟩ (Value.ref b :: argsL).toArray v B ∧
      ∀ target, Steps p.tables e below (B.U.setTop { g with pc := g.pc + 3, stack := v.toList ++ rest }) target → Steps p.tables e below (T.setTop g) target) ∨
    (∃ (q : Addr) (vm₁ : Vm) (B : Pt), s.WarmedH vm₁ ∧ Stand p l e R s m args below meth c B.U B.locs B.cells B.slots ∧ PostX ⟨T.setVm vm₁, locs, cells, slots⟩ (Value.ref b :: argsL).toArray q B ∧
      Steps p.tables e below (T.setTop g) ((B.U.setTop { g with stack := rest }).pushFrame (.throwing q))) := by
  obtain ⟨mk, methM, hnamed, hmethM, hstM, habM⟩ := Cond.instanceMethod_spec hinst
  obtain ⟨m8, methM', cM, hn8, hmethM', -, -, -, -, -, -, hsigM⟩ := Cond.codeWith_spec hcode
  cases Option.some.inj (hn8.symm.trans hnamed)
  cases hmethM.symm.trans hmethM'
  obtain ⟨c2, r2, m2, q1, q2, q3, q4, kP, hkP, hkPi⟩ := Cond.selects_spec hsel
  cases hcls.symm.trans q1
  cases (State.methodFound?_of_named hnamed hy).symm.trans q2
  cases hnamed.symm.trans q3
  have hselP : selectMethod e.platform s.vm cellB.cls mk = .method mk := by rw [Launch.admits_selectMethod X.admits]; exact q4
  obtain ⟨vm₁, X₁, hstep₁⟩ := X.invokevirtual hexec hown hlink hnamed hmethM hstM hkP hkPi hy (a := b) (cell := cellB) hcell
    (fun z h => by rw [h] at hobj; cases hobj) hselP hmethM habM hkP hkPi (g := g) hg (argsL := argsL) (rest := rest) (hlen _ hsigM) hstack hdg
  rcases hK m meth c ⟨T.setVm vm₁, locs, cells, slots⟩ { g with stack := rest } (.invokevirtual index) mk (Value.ref b :: argsL).toArray X₁ hg hsize hdg hW (X₁.named hnamed) (hpre vm₁ X₁.warmed) with ⟨v, B, X', hpost, hsteps⟩ | ⟨q, B, X', hpost, hsteps⟩
  · exact Or.inl ⟨v, vm₁, B, X₁.warmed, X', hpost, fun target h => hstep₁ _ fun acts => by rw [doInvoke_state]; exact hsteps.trans h⟩
  · exact Or.inr ⟨q, vm₁, B, X₁.warmed, X', hpost, hstep₁ _ fun acts => by rw [doInvoke_state]; exact hsteps⟩
theorem vx_callSX (X : Stand p l e R s m args below meth c T locs cells slots) (hexec : p.tables.exec = Jvm.exec) {own : String} {index : Nat} {y : MethodName} {bytes : ByteArray} {maxL : Nat} {ret : Option FieldType} {hh : List (Nat × Nat × Nat × Nat)}
    (hown : s.vm.findClass own = some m.cls) (hlink : (Cond.methodLink own index y).before args s = true) (hstat : (Cond.static y).before args s = true) (hinit : (Cond.initialized y.cls).before args s = true)
    (hcode : (Cond.codeWith y bytes maxL ret hh).before args s = true) (hy : y.cls ≠ "java/lang/invoke/MethodHandle" ∧ y.cls ≠ "java/lang/invoke/VarHandle")
    {W9 : Nat} {Pre : Pt → Array Value → Prop} {Post : Pt → Array Value → Option Value → Pt → Prop} {PostX : Pt → Array Value → Addr → Pt → Prop} (hK : vx_Back l R p e below s args y 3 W9 Pre Post PostX)
    {g : JFrame} (hg : g.method = m) (hsize : g.locals.size = c.maxLocals) {argsL rest : List Value} (hlen : ∀ sig, parseMethodDescriptor y.desc = some sig → argsL.length = sig.parameters.length)
    (hstack : g.stack = argsL.reverse ++ rest) (hW : 2 * g.monitorRoom + (rest.map fun v => v.category).sum ≤ W9) (hdg : decode c.code g.pc = .ok (.invokestatic index, 3))
    (hpre : ∀ vm₁, s.WarmedH vm₁ → Pre ⟨T.setVm vm₁, locs, cells, slots⟩ argsL.toArray) :
    (∃ (v : Option Value) (vm₁ : Vm) (B : Pt), s.WarmedH vm₁ ∧ Stand p l e R s m args below meth c B.U B.locs B.cells B.slots ∧ Post ⟨T.setVm vm₁, locs, cells, slots⟩ argsL.toArray v B ∧
      ∀ target, Steps p.tables e below (B.U.setTop { g with pc := g.pc + 3, stack := v.toList ++ rest }) target → Steps p.tables e below (T.setTop g) target) ∨
    (∃ (q : Addr) (vm₁ : Vm) (B : Pt), s.WarmedH vm₁ ∧ Stand p l e R s m args below meth c B.U B.locs B.cells B.slots ∧ PostX ⟨T.setVm vm₁, locs, cells, slots⟩ argsL.toArray q B ∧
      Steps p.tables e below (T.setTop g) ((B.U.setTop { g with stack := rest }).pushFrame (.throwing q))) := by
  obtain ⟨mk, methM, cM, hnamed, hmethM, -, -, -, -, -, -, hsigM⟩ := Cond.codeWith_spec hcode
  have hstatic : methM.isStatic = true := Cond.static_spec hnamed hmethM hstat
  obtain ⟨kP, hkP, -⟩ := className_of_methodNamed hnamed
  have hinitP : kP.init = .initialized := Cond.initialized_spec (findClass_of_methodNamed hnamed) hkP hinit
  obtain ⟨vm₁, X₁, hstep₁⟩ := X.invokestatic hexec hown hlink hnamed hmethM hstatic hkP hinitP hy (g := g) hg (argsL := argsL) (rest := rest) (hlen _ hsigM) hstack hdg
  rcases hK m meth c ⟨T.setVm vm₁, locs, cells, slots⟩ { g with stack := rest } (.invokestatic index) mk argsL.toArray X₁ hg hsize hdg hW (X₁.named hnamed) (hpre vm₁ X₁.warmed) with ⟨v, B, X', hpost, hsteps⟩ | ⟨q, B, X', hpost, hsteps⟩
  · exact Or.inl ⟨v, vm₁, B, X₁.warmed, X', hpost, fun target h => hstep₁ _ fun acts => by rw [doInvoke_state]; exact hsteps.trans h⟩
  · exact Or.inr ⟨q, vm₁, B, X₁.warmed, X', hpost, hstep₁ _ fun acts => by rw [doInvoke_state]; exact hsteps⟩
theorem vx_callVW (X : Stand p l e R s m args below meth c T locs cells slots) (hexec : p.tables.exec = Jvm.exec) {own C : String} {index : Nat} {y : MethodName} {bytes : ByteArray} {maxL : Nat} {ret : Option FieldType} {hh : List (Nat × Nat × Nat × Nat)}
    (hown : s.vm.findClass own = some m.cls) (hlink : (Cond.methodLink own index y).before args s = true) (hinst : (Cond.instanceMethod y).before args s = true) (hsel : (Cond.selects C y y).before args s = true)
    (hcode : (Cond.codeWith y bytes maxL ret hh).before args s = true) (hy : y.cls ≠ "java/lang/invoke/MethodHandle" ∧ y.cls ≠ "java/lang/invoke/VarHandle")
    {W9 : Nat} {Pre : Pt → Array Value → Prop} {Post : Pt → Array Value → Option Value → Pt → Prop} (hK : Back l R p e below s args y 3 W9 Pre Post)
    {b : Addr} {cellB : Cell} (hcell : T.heap[b]? = some cellB) (hobj : cellB.vm.isStatics = false) (hcls : s.vm.findClass C = some cellB.cls)
    {g : JFrame} (hg : g.method = m) (hsize : g.locals.size = c.maxLocals) {argsL rest : List Value} (hlen : ∀ sig, parseMethodDescriptor y.desc = some sig → argsL.length = sig.parameters.length)
    (hstack : g.stack = argsL.reverse ++ .ref b :: rest) (hW : 2 * g.monitorRoom + (rest.map fun v => v.category).sum ≤ W9) (hdg : decode c.code g.pc = .ok (.invokevirtual index, 3))
    (hpre : ∀ vm₁, s.WarmedH vm₁ → Pre ⟨T.setVm vm₁, locs, cells, slots⟩ (Value.ref b :: argsL).toArray) :
    ∃ (v : Option Value) (vm₁ : Vm) (B : Pt), s.WarmedH vm₁ ∧ Stand p l e R s m args below meth c B.U B.locs B.cells B.slots ∧ Post ⟨T.setVm vm₁, locs, cells, slots⟩ (Value.ref b :: argsL).toArray v B ∧
      ∀ target, Steps p.tables e below (B.U.setTop { g with pc := g.pc + 3, stack := v.toList ++ rest }) target → Steps p.tables e below (T.setTop g) target := by
  obtain ⟨mk, methM, hnamed, hmethM, hstM, habM⟩ := Cond.instanceMethod_spec hinst
  obtain ⟨m8, methM', cM, hn8, hmethM', -, -, -, -, -, -, hsigM⟩ := Cond.codeWith_spec hcode
  cases Option.some.inj (hn8.symm.trans hnamed)
  cases hmethM.symm.trans hmethM'
  obtain ⟨c2, r2, m2, q1, q2, q3, q4, kP, hkP, hkPi⟩ := Cond.selects_spec hsel
  cases hcls.symm.trans q1
  cases (State.methodFound?_of_named hnamed hy).symm.trans q2
  cases hnamed.symm.trans q3
  have hselP : selectMethod e.platform s.vm cellB.cls mk = .method mk := by rw [Launch.admits_selectMethod X.admits]; exact q4
  obtain ⟨vm₁, X₁, hstep₁⟩ := X.invokevirtual hexec hown hlink hnamed hmethM hstM hkP hkPi hy (a := b) (cell := cellB) hcell
    (fun z h => by rw [h] at hobj; cases hobj) hselP hmethM habM hkP hkPi (g := g) hg (argsL := argsL) (rest := rest) (hlen _ hsigM) hstack hdg
  obtain ⟨v, B, X', hpost, hsteps⟩ := hK m meth c ⟨T.setVm vm₁, locs, cells, slots⟩ { g with stack := rest } (.invokevirtual index) mk (Value.ref b :: argsL).toArray X₁ hg hsize hdg hW (X₁.named hnamed) (hpre vm₁ X₁.warmed)
  exact ⟨v, vm₁, B, X₁.warmed, X', hpost, fun target h => hstep₁ _ fun acts => by rw [doInvoke_state]; exact hsteps.trans h⟩
abbrev vx_CVW (R : Room) (s : State) (args : Array Value) (own C : String) (index : Nat) (y : MethodName) (bytes : ByteArray) (maxL : Nat) (ret : Option FieldType) (hh : List (Nat × Nat × Nat × Nat)) (ws : List Cond) (rm : Room) (mc ms n : Nat) : Prop :=
  (rm.cells = mc ∧ rm.slots = ms ∧ rm.frames + 1 ≤ R.frames ∧ 8 + (maxL + 11) + rm.locals ≤ R.locals ∧ (∀ w ∈ ws, ∀ (a' : Array Value) (U : State), s.WarmedH U.vm → w.before a' U = true) ∧ Cond.codeWith y bytes maxL ret hh ∈ ws) ∧
  (Cond.codeWith y bytes maxL ret hh).before args s = true ∧ (Cond.initialized y.cls).before args s = true ∧ (y.cls ≠ "java/lang/invoke/MethodHandle" ∧ y.cls ≠ "java/lang/invoke/VarHandle") ∧
  (∀ sig, parseMethodDescriptor y.desc = some sig → n = sig.parameters.length) ∧ (Cond.methodLink own index y).before args s = true ∧ (Cond.instanceMethod y).before args s = true ∧ (Cond.selects C y y).before args s = true
theorem vx_cwVW {own C : String} {index maxL mc ms : Nat} {y : MethodName} {bytes : ByteArray} {ret : Option FieldType} {hh : List (Nat × Nat × Nat × Nat)} {Ts ws ws' : List Cond} {rm : Room} (n : Nat) (ht : ∀ w ∈ Ts, w.before args s = true) (hT : GoodIn Ts (wsV own index C y ws)) (hw : ws = Cond.codeWith y bytes maxL ret hh :: ws') (hrc : rm.cells = mc) (hrs : rm.slots = ms)
    (hd : y.cls = C ∧ y.cls ≠ "java/lang/invoke/MethodHandle" ∧ y.cls ≠ "java/lang/invoke/VarHandle" ∧ (parseMethodDescriptor y.desc).map (fun d => d.parameters.length) = some n) (hR : rm.frames + 1 ≤ R.frames ∧ 8 + (maxL + 11) + rm.locals ≤ R.locals) :
    vx_CVW R s args own C index y bytes maxL ret hh ws rm mc ms n := by
  obtain ⟨hC, hd⟩ := hd
  subst hC
  have ok : ∀ w ∈ wsV own index y.cls y ws, w.before args s = true := fun w h => ht w (hT w h).1
  have hG : GoodIn Ts ws := fun w h => hT w (by unfold wsV; exact List.mem_append_right _ h)
  have hc : Cond.codeWith y bytes maxL ret hh ∈ ws := by rw [hw]; exact List.mem_cons_self
  refine ⟨⟨hrc, hrs, hR.1, hR.2, pay_in ht hG, hc⟩, ht _ (hG _ hc).1, ok _ (by simp [wsV]), ⟨hd.1, hd.2.1⟩, fun sig h => ?_, ok _ (by simp [wsV]), ok _ (by simp [wsV]), ok _ (by simp [wsV])⟩
  have h2 := hd.2.2
  rw [h] at h2
  exact (Option.some.inj h2).symm
theorem vx_runVW {y : MethodName} {bytes cc : ByteArray} {maxL nL mc ms n index : Nat} {ret : Option FieldType} {hh : List (Nat × Nat × Nat × Nat)} {ws : List Cond} {rm : Room} {Pc : Array Value → State → Prop} {Qc : Array Value → State → Outcome → State → Prop} {free : Addr → Prop} {Ts : List Cond} {own C : String} {b : Addr} {As rest : List Value} {g : JFrame}
    (S : CallFix p m c cc nL s args Ts own) (hM : Met l y ws rm Pc Qc mc ms free) (cw : vx_CVW R s args own C index y bytes maxL ret hh ws rm mc ms n) (hp : PreV s H C b Pc As)
    (hg : g.method = m) (hn : As.length = n) (hsize : g.locals.size = nL) (hstack : g.stack = As.reverse ++ .ref b :: rest) (hW : 2 * g.monitorRoom + (rest.map fun v => v.category).sum ≤ 8) (hdg : decode cc g.pc = .ok (.invokevirtual index, 3)) (hf : cells + mc ≤ R.cells ∧ slots + ms ≤ R.slots) :
    va_Run p l e R s m args below meth c H locs cells slots mc ms g rest (Qc (Value.ref b :: As).toArray) free := by
  obtain ⟨⟨hrc, hrs, hfr, hlo, hws, hcw⟩, hcode, hini, hy, hlen, hl, hin, hse⟩ := cw
  have hK : Back l R p e below s args y 3 8 (PreOf R mc ms Pc) (PostOf Qc mc ms free) := va_backW (hh := hh) (bytes := bytes) (maxL := maxL) (ret := ret) hM hp.1 hrc hrs hfr hlo hws hcw (fun a' U hW => word_at hW (Or.inl (by first | rfl | simp [Cond.onTables, Cond.keeps, Cond.steady])) hini)
  obtain ⟨hx, hb, hml, ho, -⟩ := S
  obtain ⟨-, ⟨cellB, hcB, hoB, hclB⟩, hPc⟩ := hp
  intro T hT X
  obtain ⟨v, vm₁, ⟨U', l2, c2, s2⟩, hW₁, X', ⟨g', mk, t, L, e1, e2, hq, h1, hL, h2, h3⟩, st⟩ := vx_callVW X hx (C := C) (hh := hh) (bytes := bytes) (maxL := maxL) (ret := ret) ho hl hin hse hcode hy hK (by rw [hT]; exact hcB) hoB hclB hg (hsize.trans hml.symm) (argsL := As) (rest := rest) (fun sig h => hn.trans (hlen sig h)) hstack hW (by rw [hb]; exact hdg)
    (fun vm₁ hW₁ => ⟨hf.1, hf.2, hPc (T.setVm vm₁) hT hW₁⟩)
  dsimp only [Pt.U, Pt.locs, Pt.cells, Pt.slots] at X' e1 e2 h1 h2 h3 st
  subst h1; subst h2; subst h3
  exact ⟨v, (T.setVm vm₁).calling g' mk (Value.ref b :: As).toArray, t, U', L, hT, X', hL, e1, e2, hq, st⟩
section
variable {y : MethodName} {bytes cc : ByteArray} {maxL nL mc ms n index : Nat} {ret : Option FieldType} {ws : List Cond} {rm : Room} {Pc : Array Value → State → Prop} {Qc : Array Value → State → Outcome → State → Prop} {XC : String → State → State → Prop} {free : Addr → Prop} {Ts : List Cond} {own C : String} {b : Addr} {As rest : List Value} {g : JFrame}
theorem vx_runVX {hh : List (Nat × Nat × Nat × Nat)} (S : CallFix p m c cc nL s args Ts own) (hM : vx_Met l y ws rm Pc Qc XC mc ms free) (cw : vx_CVW R s args own C index y bytes maxL ret hh ws rm mc ms n) (hp : PreV s H C b Pc As)
    (hg : g.method = m) (hn : As.length = n) (hsize : g.locals.size = nL) (hstack : g.stack = As.reverse ++ .ref b :: rest) (hW : 2 * g.monitorRoom + (rest.map fun v => v.category).sum ≤ 8) (hdg : decode cc g.pc = .ok (.invokevirtual index, 3)) (hf : cells + mc ≤ R.cells ∧ slots + ms ≤ R.slots) :
    vx_Run p l e R s m args below meth c H locs cells slots mc ms g rest (Qc (Value.ref b :: As).toArray) XC free := by
  obtain ⟨⟨hrc, hrs, hfr, hlo, hws, hcw⟩, hcode, hini, hy, hlen, hl, hin, hse⟩ := cw
  have hK : vx_Back l R p e below s args y 3 8 (PreOf R mc ms Pc) (PostOf Qc mc ms free) (vx_Post XC mc ms free) := vx_backW (hh := hh) (bytes := bytes) (maxL := maxL) (ret := ret) hM hp.1 hrc hrs hfr hlo hws hcw (fun a' U hW => word_at hW (Or.inl (by first | rfl | simp [Cond.onTables, Cond.keeps, Cond.steady])) hini)
  obtain ⟨hx, hb, hml, ho, -⟩ := S
  obtain ⟨-, ⟨cellB, hcB, hoB, hclB⟩, hPc⟩ := hp
  intro T hT X
  rcases vx_callVX X hx (C := C) (hh := hh) (bytes := bytes) (maxL := maxL) (ret := ret) ho hl hin hse hcode hy hK (by rw [hT]; exact hcB) hoB hclB hg (hsize.trans hml.symm) (argsL := As) (rest := rest) (fun sig h => hn.trans (hlen sig h)) hstack hW (by rw [hb]; exact hdg)
    (fun vm₁ hW₁ => ⟨hf.1, hf.2, hPc (T.setVm vm₁) hT hW₁⟩) with ⟨v, vm₁, ⟨U', l2, c2, s2⟩, hW₁, X', ⟨g', mk, t, L, e1, e2, hq, h1, hL, h2, h3⟩, st⟩ | ⟨q, vm₁, ⟨U', l2, c2, s2⟩, hW₁, X', ⟨g', mk, t, L, E, ce, e1, e2, hq, hce, hcv, hcl, h1, hL, h2, h3⟩, st⟩
  · dsimp only [Pt.U, Pt.locs, Pt.cells, Pt.slots] at X' e1 e2 h1 h2 h3 st
    subst h1; subst h2; subst h3
    exact Or.inl ⟨v, (T.setVm vm₁).calling g' mk (Value.ref b :: As).toArray, t, U', L, hT, X', hL, e1, e2, hq, st⟩
  · dsimp only [Pt.U, Pt.locs, Pt.cells, Pt.slots] at X' e1 e2 h1 h2 h3 st hcl
    subst h1; subst h2; subst h3
    exact Or.inr ⟨q, (T.setVm vm₁).calling g' mk (Value.ref b :: As).toArray, t, U', L, E, ce, hT, X', hL, e1, e2, hq, hce, hcv, vx_cls hW₁ hcl, st⟩
theorem vx_runSX {hh : List (Nat × Nat × Nat × Nat)} (S : CallFix p m c cc nL s args Ts own) (hM : vx_Met l y ws rm Pc Qc XC mc ms free) (cw : vx_CSW R s args own index y bytes maxL ret hh ws rm mc ms n) (hp : PreS s H Pc As)
    (hg : g.method = m) (hn : As.length = n) (hsize : g.locals.size = nL) (hstack : g.stack = As.reverse ++ rest) (hW : 2 * g.monitorRoom + (rest.map fun v => v.category).sum ≤ 8) (hdg : decode cc g.pc = .ok (.invokestatic index, 3)) (hf : cells + mc ≤ R.cells ∧ slots + ms ≤ R.slots) :
    vx_Run p l e R s m args below meth c H locs cells slots mc ms g rest (Qc As.toArray) XC free := by
  obtain ⟨⟨hrc, hrs, hfr, hlo, hws, hcw⟩, hcode, hini, hy, hlen, hl, hstt⟩ := cw
  have hK : vx_Back l R p e below s args y 3 8 (PreOf R mc ms Pc) (PostOf Qc mc ms free) (vx_Post XC mc ms free) := vx_backW (hh := hh) (bytes := bytes) (maxL := maxL) (ret := ret) hM hp.1 hrc hrs hfr hlo hws hcw (fun a' U hW => word_at hW (Or.inl (by first | rfl | simp [Cond.onTables, Cond.keeps, Cond.steady])) hini)
  obtain ⟨hx, hb, hml, ho, -⟩ := S
  intro T hT X
  rcases vx_callSX X hx (hh := hh) (bytes := bytes) (maxL := maxL) (ret := ret) ho hl hstt hini hcode hy hK hg (hsize.trans hml.symm) (argsL := As) (rest := rest) (fun sig h => hn.trans (hlen sig h)) hstack hW (by rw [hb]; exact hdg)
    (fun vm₁ hW₁ => ⟨hf.1, hf.2, hp.2 (T.setVm vm₁) hT hW₁⟩) with ⟨v, vm₁, ⟨U', l2, c2, s2⟩, hW₁, X', ⟨g', mk, t, L, e1, e2, hq, h1, hL, h2, h3⟩, st⟩ | ⟨q, vm₁, ⟨U', l2, c2, s2⟩, hW₁, X', ⟨g', mk, t, L, E, ce, e1, e2, hq, hce, hcv, hcl, h1, hL, h2, h3⟩, st⟩
  · dsimp only [Pt.U, Pt.locs, Pt.cells, Pt.slots] at X' e1 e2 h1 h2 h3 st
    subst h1; subst h2; subst h3
    exact Or.inl ⟨v, (T.setVm vm₁).calling g' mk As.toArray, t, U', L, hT, X', hL, e1, e2, hq, st⟩
  · dsimp only [Pt.U, Pt.locs, Pt.cells, Pt.slots] at X' e1 e2 h1 h2 h3 st hcl
    subst h1; subst h2; subst h3
    exact Or.inr ⟨q, (T.setVm vm₁).calling g' mk As.toArray, t, U', L, E, ce, hT, X', hL, e1, e2, hq, hce, hcv, vx_cls hW₁ hcl, st⟩
end
end VXH
theorem vx_ofWH {l : Launch} {y : MethodName} {ws ws' : List Cond} {rm : Room} {Pc : Array Value → State → Prop} {Qc : Array Value → State → Outcome → State → Prop} {XC : String → State → State → Prop} {mc ms : Nat} {free : Addr → Prop} {cc : ByteArray} {maxL : Nat} {ret : Option FieldType} {hh : List (Nat × Nat × Nat × Nat)}
    (hy : plainName y.cls = true) (hw : ws = Cond.codeWith y cc maxL ret hh :: ws')
    (body : ∀ p e s m args below meth c s₁, BodyLoose p l y (headSpec ws rm) cc maxL ret e s m args below meth c s₁ → c.maxLocals = maxL → Pc args s →
      W p l e (headSpec ws rm).room s m args below meth c s.heap [] 0 0 (vx_MQ below Qc XC args s mc ms free) (entryFrame m args maxL)) : vx_Met l y ws rm Pc Qc XC mc ms free := by
  refine MetFree.of_bodyS (code := cc) (maxLocals := maxL) (ret := ret) hy ?_ ?_
  · intro args s m h hn
    obtain ⟨m9, meth, c, hn9, h1, h2, h3, h4, -, h5, h6, -⟩ := Cond.codeWith_spec (atoms_spec (ws := ws) h _ (by rw [hw]; exact List.mem_cons_self))
    cases hn.symm.trans hn9
    exact ⟨meth, c, h1, h2, h3, h4, h5, h6⟩
  · intro p e s m args below meth c s₁ B hml hP _
    have hh0 : s₁.heap = s.heap := by rw [B.state]; rfl
    obtain ⟨t, a1, o, b1, b2, b3⟩ := body p e s m args below meth c s₁ B hml hP s₁ hh0 (Stand.of_body B)
    exact ⟨t, o, a1, b1, b2, b3⟩
/-! ===== END ===== -/
end
section
/-! ===== BEGIN printed: names, fields, word lists, decode rows ===== -/
def RX0 : String := "RedcrossGantry$Bookings"
def TX0 : u_T := fun k => match k with
  | 0 => ("RedcrossGantry$Bookings", "lanes", "[I", true)
  | 1 => ("RedcrossGantry$Bookings", "froms", "[I", true)
  | 2 => ("RedcrossGantry$Bookings", "tos", "[I", true)
  | 3 => ("RedcrossGantry$Bookings", "begins", "[I", true)
  | 4 => ("RedcrossGantry$Bookings", "ends", "[I", true)
  | _ => ("RedcrossGantry$Bookings", "count", "I", false)
def tyX0 : Nat → FieldType := fun k => match k with
  | 0 => .array .int
  | 1 => .array .int
  | 2 => .array .int
  | 3 => .array .int
  | 4 => .array .int
  | _ => .int
theorem nmX0 : ∀ a, a < 6 → ∀ b, b < 6 → a ≠ b → (TX0 a).2.1 ≠ (TX0 b).2.1 := by decide +kernel
theorem tyX0_ok : ∀ k, k < 6 → parseFieldDescriptor (TX0 k).2.2.1 = some (tyX0 k) := by decide +kernel
abbrev cX0_init : ByteArray := prog_2_method_1_code
def yX0_init : MethodName := ⟨RX0, "<init>", "()V"⟩
abbrev cX0_isRunning : ByteArray := prog_2_method_2_code
def yX0_isRunning : MethodName := ⟨RX0, "isRunning", "(II)Z"⟩
abbrev cX0_writeNext : ByteArray := prog_2_method_3_code
def yX0_writeNext : MethodName := ⟨RX0, "writeNext", "(IIIII)V"⟩
abbrev cX0_nextTakesLastLane : ByteArray := prog_2_method_4_code
def yX0_nextTakesLastLane : MethodName := ⟨RX0, "nextTakesLastLane", "()Z"⟩
abbrev cX0_tellCrosses : ByteArray := prog_2_method_5_code
def yX0_tellCrosses : MethodName := ⟨RX0, "tellCrosses", "([II)V"⟩
abbrev cX0_tellCrossesOf : ByteArray := prog_2_method_6_code
def yX0_tellCrossesOf : MethodName := ⟨RX0, "tellCrossesOf", "(I[I)V"⟩
abbrev cX0_areInThreeLanes : ByteArray := prog_2_method_7_code
def yX0_areInThreeLanes : MethodName := ⟨RX0, "areInThreeLanes", "(III)Z"⟩
abbrev cX0_doMeet : ByteArray := prog_2_method_8_code
def yX0_doMeet : MethodName := ⟨RX0, "doMeet", "(III)Z"⟩
def RX1 : String := "RedcrossGantry$Detectors"
def TX1 : u_T := fun k => match k with
  | 0 => ("RedcrossGantry$Detectors", "is", "[I", true)
  | _ => ("RedcrossGantry$Detectors", "stuckAt", "[I", true)
def tyX1 : Nat → FieldType := fun k => match k with
  | 0 => .array .int
  | _ => .array .int
theorem nmX1 : ∀ a, a < 2 → ∀ b, b < 2 → a ≠ b → (TX1 a).2.1 ≠ (TX1 b).2.1 := by decide +kernel
theorem tyX1_ok : ∀ k, k < 2 → parseFieldDescriptor (TX1 k).2.2.1 = some (tyX1 k) := by decide +kernel
abbrev cX1_init : ByteArray := prog_3_method_1_code
def yX1_init : MethodName := ⟨RX1, "<init>", "()V"⟩
abbrev cX1_guessAt : ByteArray := prog_3_method_2_code
def yX1_guessAt : MethodName := ⟨RX1, "guessAt", "(ILRedcrossGantry$Traffic;)I"⟩
abbrev cX1_beliefAt : ByteArray := prog_3_method_3_code
def yX1_beliefAt : MethodName := ⟨RX1, "beliefAt", "(ILRedcrossGantry$Traffic;)I"⟩
def RX2 : String := "RedcrossGantry$Incidents"
def TX2 : u_T := fun k => match k with
  | 0 => ("RedcrossGantry$Incidents", "places", "[I", true)
  | 1 => ("RedcrossGantry$Incidents", "how", "[I", true)
  | 2 => ("RedcrossGantry$Incidents", "patrols", "[I", true)
  | _ => ("RedcrossGantry$Incidents", "count", "I", false)
def tyX2 : Nat → FieldType := fun k => match k with
  | 0 => .array .int
  | 1 => .array .int
  | 2 => .array .int
  | _ => .int
theorem nmX2 : ∀ a, a < 4 → ∀ b, b < 4 → a ≠ b → (TX2 a).2.1 ≠ (TX2 b).2.1 := by decide +kernel
theorem tyX2_ok : ∀ k, k < 4 → parseFieldDescriptor (TX2 k).2.2.1 = some (tyX2 k) := by decide +kernel
abbrev cX2_init : ByteArray := prog_4_method_1_code
def yX2_init : MethodName := ⟨RX2, "<init>", "()V"⟩
abbrev cX2_has : ByteArray := prog_4_method_2_code
def yX2_has : MethodName := ⟨RX2, "has", "(I)Z"⟩
abbrev cX2_sectionOf : ByteArray := prog_4_method_3_code
def yX2_sectionOf : MethodName := ⟨RX2, "sectionOf", "(I)I"⟩
abbrev cX2_canAdd : ByteArray := prog_4_method_4_code
def yX2_canAdd : MethodName := ⟨RX2, "canAdd", "(I)Z"⟩
abbrev cX2_add : ByteArray := prog_4_method_5_code
def yX2_add : MethodName := ⟨RX2, "add", "(I)I"⟩
abbrev cX2_tellCrosses : ByteArray := prog_4_method_6_code
def yX2_tellCrosses : MethodName := ⟨RX2, "tellCrosses", "([I)V"⟩
def RX3 : String := "RedcrossGantry$LaneSigns"
def TX3 : u_T := fun k => match k with
  | 0 => ("RedcrossGantry$LaneSigns", "orders", "[I", true)
  | 1 => ("RedcrossGantry$LaneSigns", "told", "[I", true)
  | _ => ("RedcrossGantry$LaneSigns", "shown", "[I", true)
def tyX3 : Nat → FieldType := fun k => match k with
  | 0 => .array .int
  | 1 => .array .int
  | _ => .array .int
theorem nmX3 : ∀ a, a < 3 → ∀ b, b < 3 → a ≠ b → (TX3 a).2.1 ≠ (TX3 b).2.1 := by decide +kernel
theorem tyX3_ok : ∀ k, k < 3 → parseFieldDescriptor (TX3 k).2.2.1 = some (tyX3 k) := by decide +kernel
abbrev cX3_init : ByteArray := prog_5_method_1_code
def yX3_init : MethodName := ⟨RX3, "<init>", "()V"⟩
abbrev cX3_setAnew : ByteArray := prog_5_method_2_code
def yX3_setAnew : MethodName := ⟨RX3, "setAnew", "(ILRedcrossGantry$Shoulder;LRedcrossGantry$Incidents;LRedcrossGantry$Bookings;)V"⟩
abbrev cX3_areLawful : ByteArray := prog_5_method_3_code
def yX3_areLawful : MethodName := ⟨RX3, "areLawful", "()Z"⟩
abbrev cX3_isAheadOfCross : ByteArray := prog_5_method_4_code
def yX3_isAheadOfCross : MethodName := ⟨RX3, "isAheadOfCross", "(I[I)Z"⟩
def RX4 : String := "RedcrossGantry$Patrols"
def TX4 : u_T := fun k => match k with
  | 0 => ("RedcrossGantry$Patrols", "sections", "[I", true)
  | 1 => ("RedcrossGantry$Patrols", "incidents", "[I", true)
  | _ => ("RedcrossGantry$Patrols", "minutesLeft", "[I", true)
def tyX4 : Nat → FieldType := fun k => match k with
  | 0 => .array .int
  | 1 => .array .int
  | _ => .array .int
theorem nmX4 : ∀ a, a < 3 → ∀ b, b < 3 → a ≠ b → (TX4 a).2.1 ≠ (TX4 b).2.1 := by decide +kernel
theorem tyX4_ok : ∀ k, k < 3 → parseFieldDescriptor (TX4 k).2.2.1 = some (tyX4 k) := by decide +kernel
abbrev cX4_init : ByteArray := prog_6_method_1_code
def yX4_init : MethodName := ⟨RX4, "<init>", "()V"⟩
def RX5 : String := "RedcrossGantry$Proofs"
def TX5 : u_T := fun k => match k with
  | _ => ("RedcrossGantry$Proofs", "kept", "[I", true)
def tyX5 : Nat → FieldType := fun k => match k with
  | _ => .array .int
theorem nmX5 : ∀ a, a < 1 → ∀ b, b < 1 → a ≠ b → (TX5 a).2.1 ≠ (TX5 b).2.1 := by decide +kernel
theorem tyX5_ok : ∀ k, k < 1 → parseFieldDescriptor (TX5 k).2.2.1 = some (tyX5 k) := by decide +kernel
abbrev cX5_init : ByteArray := prog_7_method_1_code
def yX5_init : MethodName := ⟨RX5, "<init>", "()V"⟩
abbrev cX5_isKept : ByteArray := prog_7_method_2_code
def yX5_isKept : MethodName := ⟨RX5, "isKept", "(II)Z"⟩
abbrev cX5_keep : ByteArray := prog_7_method_3_code
def yX5_keep : MethodName := ⟨RX5, "keep", "(I[I[I)V"⟩
abbrev cX5_speedSign : ByteArray := prog_7_method_4_code
def yX5_speedSign : MethodName := ⟨RX5, "speedSign", "(II)I"⟩
abbrev cX5_laneSign : ByteArray := prog_7_method_5_code
def yX5_laneSign : MethodName := ⟨RX5, "laneSign", "(III)I"⟩
abbrev cX5_slotOf : ByteArray := prog_7_method_6_code
def yX5_slotOf : MethodName := ⟨RX5, "slotOf", "(II)I"⟩
def RX6 : String := "RedcrossGantry$Shoulder"
def TX6 : u_T := fun k => match k with
  | 0 => ("RedcrossGantry$Shoulder", "open", "[Z", true)
  | _ => ("RedcrossGantry$Shoulder", "foundClearAt", "[I", true)
def tyX6 : Nat → FieldType := fun k => match k with
  | 0 => .array .boolean
  | _ => .array .int
theorem nmX6 : ∀ a, a < 2 → ∀ b, b < 2 → a ≠ b → (TX6 a).2.1 ≠ (TX6 b).2.1 := by decide +kernel
theorem tyX6_ok : ∀ k, k < 2 → parseFieldDescriptor (TX6 k).2.2.1 = some (tyX6 k) := by decide +kernel
abbrev cX6_init : ByteArray := prog_8_method_1_code
def yX6_init : MethodName := ⟨RX6, "<init>", "()V"⟩
abbrev cX6_isOpenAt : ByteArray := prog_8_method_2_code
def yX6_isOpenAt : MethodName := ⟨RX6, "isOpenAt", "(I)Z"⟩
abbrev cX6_canOpen : ByteArray := prog_8_method_3_code
def yX6_canOpen : MethodName := ⟨RX6, "canOpen", "(III)Z"⟩
abbrev cX6_openAll : ByteArray := prog_8_method_4_code
def yX6_openAll : MethodName := ⟨RX6, "openAll", "(II)I"⟩
abbrev cX6_shutAll : ByteArray := prog_8_method_5_code
def yX6_shutAll : MethodName := ⟨RX6, "shutAll", "()I"⟩
abbrev cX6_tellCrosses : ByteArray := prog_8_method_6_code
def yX6_tellCrosses : MethodName := ⟨RX6, "tellCrosses", "([I)V"⟩
def RX7 : String := "RedcrossGantry$SpeedSigns"
def TX7 : u_T := fun k => match k with
  | 0 => ("RedcrossGantry$SpeedSigns", "limits", "[I", true)
  | 1 => ("RedcrossGantry$SpeedSigns", "shown", "[I", true)
  | 2 => ("RedcrossGantry$SpeedSigns", "loweredAt", "[I", true)
  | _ => ("RedcrossGantry$SpeedSigns", "weather", "I", false)
def tyX7 : Nat → FieldType := fun k => match k with
  | 0 => .array .int
  | 1 => .array .int
  | 2 => .array .int
  | _ => .int
theorem nmX7 : ∀ a, a < 4 → ∀ b, b < 4 → a ≠ b → (TX7 a).2.1 ≠ (TX7 b).2.1 := by decide +kernel
theorem tyX7_ok : ∀ k, k < 4 → parseFieldDescriptor (TX7 k).2.2.1 = some (tyX7 k) := by decide +kernel
abbrev cX7_init : ByteArray := prog_9_method_1_code
def yX7_init : MethodName := ⟨RX7, "<init>", "()V"⟩
abbrev cX7_setAnew : ByteArray := prog_9_method_2_code
def yX7_setAnew : MethodName := ⟨RX7, "setAnew", "(ILRedcrossGantry$Detectors;LRedcrossGantry$Traffic;)V"⟩
abbrev cX7_areLawful : ByteArray := prog_9_method_3_code
def yX7_areLawful : MethodName := ⟨RX7, "areLawful", "()Z"⟩
abbrev cX7_wantAt : ByteArray := prog_9_method_4_code
def yX7_wantAt : MethodName := ⟨RX7, "wantAt", "(II)I"⟩
abbrev cX7_wantBy : ByteArray := prog_9_method_5_code
def yX7_wantBy : MethodName := ⟨RX7, "wantBy", "(I)I"⟩
abbrev cX7_staysBelow : ByteArray := prog_9_method_6_code
def yX7_staysBelow : MethodName := ⟨RX7, "staysBelow", "(III)Z"⟩
def RX8 : String := "RedcrossGantry$Traffic"
def TX8 : u_T := fun k => match k with
  | 0 => ("RedcrossGantry$Traffic", "held", "[I", true)
  | 1 => ("RedcrossGantry$Traffic", "stopped", "[Z", true)
  | 2 => ("RedcrossGantry$Traffic", "broken", "[Z", true)
  | 3 => ("RedcrossGantry$Traffic", "demand", "I", false)
  | 4 => ("RedcrossGantry$Traffic", "came", "I", false)
  | 5 => ("RedcrossGantry$Traffic", "waiting", "I", false)
  | _ => ("RedcrossGantry$Traffic", "gone", "I", false)
def tyX8 : Nat → FieldType := fun k => match k with
  | 0 => .array .int
  | 1 => .array .boolean
  | 2 => .array .boolean
  | 3 => .int
  | 4 => .int
  | 5 => .int
  | _ => .int
theorem nmX8 : ∀ a, a < 7 → ∀ b, b < 7 → a ≠ b → (TX8 a).2.1 ≠ (TX8 b).2.1 := by decide +kernel
theorem tyX8_ok : ∀ k, k < 7 → parseFieldDescriptor (TX8 k).2.2.1 = some (tyX8 k) := by decide +kernel
abbrev cX8_init : ByteArray := prog_10_method_1_code
def yX8_init : MethodName := ⟨RX8, "<init>", "()V"⟩
abbrev cX8_mostIn : ByteArray := prog_10_method_2_code
def yX8_mostIn : MethodName := ⟨RX8, "mostIn", "(I)I"⟩
abbrev cX8_speedAt : ByteArray := prog_10_method_3_code
def yX8_speedAt : MethodName := ⟨RX8, "speedAt", "(I)I"⟩
abbrev cX8_countOnRoad : ByteArray := prog_10_method_4_code
def yX8_countOnRoad : MethodName := ⟨RX8, "countOnRoad", "()I"⟩
abbrev cX8_isStoppedAt : ByteArray := prog_10_method_5_code
def yX8_isStoppedAt : MethodName := ⟨RX8, "isStoppedAt", "(I)Z"⟩
abbrev cX8_isClear : ByteArray := prog_10_method_6_code
def yX8_isClear : MethodName := ⟨RX8, "isClear", "(I)Z"⟩
abbrev cX8_clearStopped : ByteArray := prog_10_method_7_code
def yX8_clearStopped : MethodName := ⟨RX8, "clearStopped", "(I)V"⟩
abbrev cX8_goOn : ByteArray := prog_10_method_8_code
def yX8_goOn : MethodName := ⟨RX8, "goOn", "([I)V"⟩
abbrev cX8_arrive : ByteArray := prog_10_method_9_code
def yX8_arrive : MethodName := ⟨RX8, "arrive", "([I)V"⟩
abbrev cX8_judgeBroken : ByteArray := prog_10_method_10_code
def yX8_judgeBroken : MethodName := ⟨RX8, "judgeBroken", "()V"⟩
abbrev cX8_goOnFrom : ByteArray := prog_10_method_11_code
def yX8_goOnFrom : MethodName := ⟨RX8, "goOnFrom", "(II[I)V"⟩
abbrev cX8_mostThatGoOn : ByteArray := prog_10_method_12_code
def yX8_mostThatGoOn : MethodName := ⟨RX8, "mostThatGoOn", "(II)I"⟩
abbrev cX8_placeToGoTo : ByteArray := prog_10_method_13_code
def yX8_placeToGoTo : MethodName := ⟨RX8, "placeToGoTo", "(II[I)I"⟩
abbrev cX8_laneToEnter : ByteArray := prog_10_method_14_code
def yX8_laneToEnter : MethodName := ⟨RX8, "laneToEnter", "([I)I"⟩
abbrev cX8_letsIn : ByteArray := prog_10_method_15_code
def yX8_letsIn : MethodName := ⟨RX8, "letsIn", "(I[I)Z"⟩
abbrev cX8_heldAt : ByteArray := prog_10_method_16_code
def yX8_heldAt : MethodName := ⟨RX8, "heldAt", "(I)I"⟩
def RX9 : String := "RedcrossGantry"
def TX9 : u_T := fun k => match k with
  | 0 => ("RedcrossGantry", "minute", "I", false)
  | 1 => ("RedcrossGantry", "traffic", "LRedcrossGantry$Traffic;", true)
  | 2 => ("RedcrossGantry", "detectors", "LRedcrossGantry$Detectors;", true)
  | 3 => ("RedcrossGantry", "speedSigns", "LRedcrossGantry$SpeedSigns;", true)
  | 4 => ("RedcrossGantry", "laneSigns", "LRedcrossGantry$LaneSigns;", true)
  | 5 => ("RedcrossGantry", "shoulder", "LRedcrossGantry$Shoulder;", true)
  | 6 => ("RedcrossGantry", "incidents", "LRedcrossGantry$Incidents;", true)
  | 7 => ("RedcrossGantry", "patrols", "LRedcrossGantry$Patrols;", true)
  | 8 => ("RedcrossGantry", "bookings", "LRedcrossGantry$Bookings;", true)
  | _ => ("RedcrossGantry", "proofs", "LRedcrossGantry$Proofs;", true)
def tyX9 : Nat → FieldType := fun k => match k with
  | 0 => .int
  | 1 => .object "RedcrossGantry$Traffic"
  | 2 => .object "RedcrossGantry$Detectors"
  | 3 => .object "RedcrossGantry$SpeedSigns"
  | 4 => .object "RedcrossGantry$LaneSigns"
  | 5 => .object "RedcrossGantry$Shoulder"
  | 6 => .object "RedcrossGantry$Incidents"
  | 7 => .object "RedcrossGantry$Patrols"
  | 8 => .object "RedcrossGantry$Bookings"
  | _ => .object "RedcrossGantry$Proofs"
theorem nmX9 : ∀ a, a < 10 → ∀ b, b < 10 → a ≠ b → (TX9 a).2.1 ≠ (TX9 b).2.1 := by decide +kernel
theorem tyX9_ok : ∀ k, k < 10 → parseFieldDescriptor (TX9 k).2.2.1 = some (tyX9 k) := by decide +kernel
abbrev cX9_init : ByteArray := prog_1_method_1_code
def yX9_init : MethodName := ⟨RX9, "<init>", "()V"⟩
abbrev cX9_demand : ByteArray := prog_1_method_2_code
def yX9_demand : MethodName := ⟨RX9, "demand", "(I)I"⟩
abbrev cX9_pass : ByteArray := prog_1_method_3_code
def yX9_pass : MethodName := ⟨RX9, "pass", "(I)I"⟩
abbrev cX9_holds : ByteArray := prog_1_method_4_code
def yX9_holds : MethodName := ⟨RX9, "holds", "(II)I"⟩
abbrev cX9_vehicles : ByteArray := prog_1_method_5_code
def yX9_vehicles : MethodName := ⟨RX9, "vehicles", "(I)I"⟩
abbrev cX9_section : ByteArray := prog_1_method_6_code
def yX9_section : MethodName := ⟨RX9, "section", "(II)I"⟩
abbrev cX9_detector : ByteArray := prog_1_method_7_code
def yX9_detector : MethodName := ⟨RX9, "detector", "(III)I"⟩
abbrev cX9_weather : ByteArray := prog_1_method_8_code
def yX9_weather : MethodName := ⟨RX9, "weather", "(I)I"⟩
abbrev cX9_limit : ByteArray := prog_1_method_9_code
def yX9_limit : MethodName := ⟨RX9, "limit", "(II)I"⟩
abbrev cX9_order : ByteArray := prog_1_method_10_code
def yX9_order : MethodName := ⟨RX9, "order", "(III)I"⟩
abbrev cX9_sign : ByteArray := prog_1_method_11_code
def yX9_sign : MethodName := ⟨RX9, "sign", "(II)I"⟩
abbrev cX9_isLawful : ByteArray := prog_1_method_12_code
def yX9_isLawful : MethodName := ⟨RX9, "isLawful", "()Z"⟩
abbrev cX9_look : ByteArray := prog_1_method_13_code
def yX9_look : MethodName := ⟨RX9, "look", "(I)Z"⟩
abbrev cX9_openShoulder : ByteArray := prog_1_method_14_code
def yX9_openShoulder : MethodName := ⟨RX9, "openShoulder", "(II)I"⟩
abbrev cX9_shutShoulder : ByteArray := prog_1_method_15_code
def yX9_shutShoulder : MethodName := ⟨RX9, "shutShoulder", "()I"⟩
abbrev cX9_stop : ByteArray := prog_1_method_16_code
def yX9_stop : MethodName := ⟨RX9, "stop", "(II)V"⟩
abbrev cX9_report : ByteArray := prog_1_method_17_code
def yX9_report : MethodName := ⟨RX9, "report", "(II)I"⟩
abbrev cX9_confirm : ByteArray := prog_1_method_18_code
def yX9_confirm : MethodName := ⟨RX9, "confirm", "(I)I"⟩
abbrev cX9_incident : ByteArray := prog_1_method_19_code
def yX9_incident : MethodName := ⟨RX9, "incident", "(II)I"⟩
abbrev cX9_pattern : ByteArray := prog_1_method_20_code
def yX9_pattern : MethodName := ⟨RX9, "pattern", "()I"⟩
abbrev cX9_way : ByteArray := prog_1_method_21_code
def yX9_way : MethodName := ⟨RX9, "way", "(II)I"⟩
abbrev cX9_send : ByteArray := prog_1_method_22_code
def yX9_send : MethodName := ⟨RX9, "send", "(II)I"⟩
abbrev cX9_patrol : ByteArray := prog_1_method_23_code
def yX9_patrol : MethodName := ⟨RX9, "patrol", "(II)I"⟩
abbrev cX9_works : ByteArray := prog_1_method_24_code
def yX9_works : MethodName := ⟨RX9, "works", "(IIIII)I"⟩
abbrev cX9_isOn : ByteArray := prog_1_method_25_code
def yX9_isOn : MethodName := ⟨RX9, "isOn", "(I)Z"⟩
abbrev cX9_proof : ByteArray := prog_1_method_26_code
def yX9_proof : MethodName := ⟨RX9, "proof", "(III)I"⟩
abbrev cX9_isFined : ByteArray := prog_1_method_27_code
def yX9_isFined : MethodName := ⟨RX9, "isFined", "(III)Z"⟩
abbrev cX9_isWithin : ByteArray := prog_1_method_28_code
def yX9_isWithin : MethodName := ⟨RX9, "isWithin", "(III)Z"⟩
abbrev cX9_isSpeedSign : ByteArray := prog_1_method_29_code
def yX9_isSpeedSign : MethodName := ⟨RX9, "isSpeedSign", "(I)Z"⟩
abbrev cX9_placeOf : ByteArray := prog_1_method_30_code
def yX9_placeOf : MethodName := ⟨RX9, "placeOf", "(II)I"⟩
abbrev cX9_needIndex : ByteArray := prog_1_method_31_code
def yX9_needIndex : MethodName := ⟨RX9, "needIndex", "(Z)V"⟩
abbrev cX9_needArgument : ByteArray := prog_1_method_32_code
def yX9_needArgument : MethodName := ⟨RX9, "needArgument", "(Z)V"⟩
abbrev cX9_needState : ByteArray := prog_1_method_33_code
def yX9_needState : MethodName := ⟨RX9, "needState", "(Z)V"⟩
abbrev cX9_needSection : ByteArray := prog_1_method_34_code
def yX9_needSection : MethodName := ⟨RX9, "needSection", "(I)V"⟩
abbrev cX9_needPlace : ByteArray := prog_1_method_35_code
def yX9_needPlace : MethodName := ⟨RX9, "needPlace", "(II)V"⟩
abbrev cX9_needPatrol : ByteArray := prog_1_method_36_code
def yX9_needPatrol : MethodName := ⟨RX9, "needPatrol", "(I)V"⟩
abbrev cX9_comeToNextMinute : ByteArray := prog_1_method_37_code
def yX9_comeToNextMinute : MethodName := ⟨RX9, "comeToNextMinute", "()V"⟩
abbrev cX9_setLaneSigns : ByteArray := prog_1_method_38_code
def yX9_setLaneSigns : MethodName := ⟨RX9, "setLaneSigns", "()V"⟩
abbrev cX9_movePatrols : ByteArray := prog_1_method_39_code
def yX9_movePatrols : MethodName := ⟨RX9, "movePatrols", "()V"⟩
abbrev cX9_endWorkOf : ByteArray := prog_1_method_40_code
def yX9_endWorkOf : MethodName := ⟨RX9, "endWorkOf", "(I)V"⟩
abbrev cX9_wayBetween : ByteArray := prog_1_method_41_code
def yX9_wayBetween : MethodName := ⟨RX9, "wayBetween", "(II)I"⟩
abbrev cX9_minutesThrough : ByteArray := prog_1_method_42_code
def yX9_minutesThrough : MethodName := ⟨RX9, "minutesThrough", "(I)I"⟩
def RX10 : String := "RedcrossGantryModel"
def TX10 : u_T := fun k => match k with
  | _ => ("", "", "", false)
def tyX10 : Nat → FieldType := fun k => match k with
  | _ => .int
theorem nmX10 : ∀ a, a < 0 → ∀ b, b < 0 → a ≠ b → (TX10 a).2.1 ≠ (TX10 b).2.1 := by decide +kernel
theorem tyX10_ok : ∀ k, k < 0 → parseFieldDescriptor (TX10 k).2.2.1 = some (tyX10 k) := by decide +kernel
def RJ9 : String := "java/lang/Math"
def TJ9 : u_T := fun k => match k with
  | _ => ("", "", "", false)
def tyJ9 : Nat → FieldType := fun k => match k with
  | _ => .int
theorem nmJ9 : ∀ a, a < 0 → ∀ b, b < 0 → a ≠ b → (TJ9 a).2.1 ≠ (TJ9 b).2.1 := by decide +kernel
theorem tyJ9_ok : ∀ k, k < 0 → parseFieldDescriptor (TJ9 k).2.2.1 = some (tyJ9 k) := by decide +kernel
abbrev cJ9_floorMod_7cf53 : ByteArray := prog_17_method_50_code
def yJ9_floorMod_7cf53 : MethodName := ⟨RJ9, "floorMod", "(II)I"⟩
abbrev cJ9_abs_0f7a4 : ByteArray := prog_17_method_59_code
def yJ9_abs_0f7a4 : MethodName := ⟨RJ9, "abs", "(I)I"⟩
abbrev cJ9_max_7cf53 : ByteArray := prog_17_method_65_code
def yJ9_max_7cf53 : MethodName := ⟨RJ9, "max", "(II)I"⟩
abbrev cJ9_min_7cf53 : ByteArray := prog_17_method_69_code
def yJ9_min_7cf53 : MethodName := ⟨RJ9, "min", "(II)I"⟩
def RJ0 : String := "java/lang/String"
def TJ0 : u_T := fun k => match k with
  | _ => ("", "", "", false)
def tyJ0 : Nat → FieldType := fun k => match k with
  | _ => .int
theorem nmJ0 : ∀ a, a < 0 → ∀ b, b < 0 → a ≠ b → (TJ0 a).2.1 ≠ (TJ0 b).2.1 := by decide +kernel
theorem tyJ0_ok : ∀ k, k < 0 → parseFieldDescriptor (TJ0 k).2.2.1 = some (tyJ0 k) := by decide +kernel
def RL : String := "RedcrossGantryLaw"
abbrev cL_draw : ByteArray := method_2_code
def yL_draw : MethodName := ⟨RL, "draw", "([II)I"⟩
abbrev cL_acts : ByteArray := method_3_code
def yL_acts : MethodName := ⟨RL, "acts", "(LRedcrossGantry;IIII)I"⟩
abbrev cL_stop : ByteArray := method_4_code
def yL_stop : MethodName := ⟨RL, "stop", "(LRedcrossGantry;II)Z"⟩
abbrev cL_works : ByteArray := method_5_code
def yL_works : MethodName := ⟨RL, "works", "(LRedcrossGantry;IIIII)I"⟩
abbrev cL_step : ByteArray := method_6_code
def yL_step : MethodName := ⟨RL, "step", "(LRedcrossGantry;[IIII)Z"⟩
abbrev cL_bits : ByteArray := method_7_code
def yL_bits : MethodName := ⟨RL, "bits", "(I)I"⟩
abbrev cL_shuts : ByteArray := method_8_code
def yL_shuts : MethodName := ⟨RL, "shuts", "([I)Z"⟩
abbrev cL_isOrdered : ByteArray := method_9_code
def yL_isOrdered : MethodName := ⟨RL, "isOrdered", "(LRedcrossGantry;III)Z"⟩
abbrev cL_isReported : ByteArray := method_10_code
def yL_isReported : MethodName := ⟨RL, "isReported", "(LRedcrossGantry;[III)Z"⟩
abbrev cL_isLookedAt : ByteArray := method_11_code
def yL_isLookedAt : MethodName := ⟨RL, "isLookedAt", "(LRedcrossGantry;III)Z"⟩
abbrev cL_areBooked : ByteArray := method_12_code
def yL_areBooked : MethodName := ⟨RL, "areBooked", "(LRedcrossGantry;[IIIIII)Z"⟩
abbrev cL_isPattern : ByteArray := method_13_code
def yL_isPattern : MethodName := ⟨RL, "isPattern", "(LRedcrossGantry;)Z"⟩
abbrev cL_goes : ByteArray := method_14_code
def yL_goes : MethodName := ⟨RL, "goes", "(LRedcrossGantry;[II)Z"⟩
abbrev cL_isShown : ByteArray := method_15_code
def yL_isShown : MethodName := ⟨RL, "isShown", "(LRedcrossGantry;I)Z"⟩
abbrev cL_isRoad : ByteArray := method_16_code
def yL_isRoad : MethodName := ⟨RL, "isRoad", "(LRedcrossGantry;)Z"⟩
abbrev cL_law : ByteArray := code
def yL_law : MethodName := ⟨RL, "law", "([I)Z"⟩
abbrev vwCl : List vw_C := [(RX0, TX0, 6), (RX1, TX1, 2), (RX2, TX2, 4), (RX3, TX3, 3), (RX4, TX4, 3), (RX5, TX5, 1), (RX6, TX6, 2), (RX7, TX7, 4), (RX8, TX8, 7), (RX9, TX9, 10)]
theorem at_ioobe : ∀ w ∈ (vx_atS RX9 262 "java/lang/IndexOutOfBoundsException" ["java/lang/RuntimeException", "java/lang/Exception"]).filter goodWord, w ∈ Wall := by
  intro w hw
  have h1 : ∀ w ∈ (vx_atS RX9 262 "java/lang/IndexOutOfBoundsException" ["java/lang/RuntimeException", "java/lang/Exception"]).filter goodWord, w ∈ lw_tbl := by decide +kernel
  exact List.mem_filter.mpr ⟨h1 w hw, (List.mem_filter.mp hw).2⟩
theorem at_iae : ∀ w ∈ (vx_atS RX9 269 "java/lang/IllegalArgumentException" ["java/lang/RuntimeException", "java/lang/Exception"]).filter goodWord, w ∈ Wall := by
  intro w hw
  have h1 : ∀ w ∈ (vx_atS RX9 269 "java/lang/IllegalArgumentException" ["java/lang/RuntimeException", "java/lang/Exception"]).filter goodWord, w ∈ lw_tbl := by decide +kernel
  exact List.mem_filter.mpr ⟨h1 w hw, (List.mem_filter.mp hw).2⟩
theorem at_ise : ∀ w ∈ (vx_atS RX9 274 "java/lang/IllegalStateException" ["java/lang/RuntimeException", "java/lang/Exception"]).filter goodWord, w ∈ Wall := by
  intro w hw
  have h1 : ∀ w ∈ (vx_atS RX9 274 "java/lang/IllegalStateException" ["java/lang/RuntimeException", "java/lang/Exception"]).filter goodWord, w ∈ lw_tbl := by decide +kernel
  exact List.mem_filter.mpr ⟨h1 w hw, (List.mem_filter.mp hw).2⟩
theorem iX0 : ∀ w ∈ u_ws RX0 TX0 6, w ∈ Wall := by
  have h1 : ∀ w ∈ u_ws RX0 TX0 6, w ∈ lw_tbl ∧ goodWord w = true := by decide +kernel
  exact fun w hw => List.mem_filter.mpr (h1 w hw)
theorem iX1 : ∀ w ∈ u_ws RX1 TX1 2, w ∈ Wall := by
  have h1 : ∀ w ∈ u_ws RX1 TX1 2, w ∈ lw_tbl ∧ goodWord w = true := by decide +kernel
  exact fun w hw => List.mem_filter.mpr (h1 w hw)
theorem iX2 : ∀ w ∈ u_ws RX2 TX2 4, w ∈ Wall := by
  have h1 : ∀ w ∈ u_ws RX2 TX2 4, w ∈ lw_tbl ∧ goodWord w = true := by decide +kernel
  exact fun w hw => List.mem_filter.mpr (h1 w hw)
theorem iX3 : ∀ w ∈ u_ws RX3 TX3 3, w ∈ Wall := by
  have h1 : ∀ w ∈ u_ws RX3 TX3 3, w ∈ lw_tbl ∧ goodWord w = true := by decide +kernel
  exact fun w hw => List.mem_filter.mpr (h1 w hw)
theorem iX4 : ∀ w ∈ u_ws RX4 TX4 3, w ∈ Wall := by
  have h1 : ∀ w ∈ u_ws RX4 TX4 3, w ∈ lw_tbl ∧ goodWord w = true := by decide +kernel
  exact fun w hw => List.mem_filter.mpr (h1 w hw)
theorem iX5 : ∀ w ∈ u_ws RX5 TX5 1, w ∈ Wall := by
  have h1 : ∀ w ∈ u_ws RX5 TX5 1, w ∈ lw_tbl ∧ goodWord w = true := by decide +kernel
  exact fun w hw => List.mem_filter.mpr (h1 w hw)
theorem iX6 : ∀ w ∈ u_ws RX6 TX6 2, w ∈ Wall := by
  have h1 : ∀ w ∈ u_ws RX6 TX6 2, w ∈ lw_tbl ∧ goodWord w = true := by decide +kernel
  exact fun w hw => List.mem_filter.mpr (h1 w hw)
theorem iX7 : ∀ w ∈ u_ws RX7 TX7 4, w ∈ Wall := by
  have h1 : ∀ w ∈ u_ws RX7 TX7 4, w ∈ lw_tbl ∧ goodWord w = true := by decide +kernel
  exact fun w hw => List.mem_filter.mpr (h1 w hw)
theorem iX8 : ∀ w ∈ u_ws RX8 TX8 7, w ∈ Wall := by
  have h1 : ∀ w ∈ u_ws RX8 TX8 7, w ∈ lw_tbl ∧ goodWord w = true := by decide +kernel
  exact fun w hw => List.mem_filter.mpr (h1 w hw)
theorem iX9 : ∀ w ∈ u_ws RX9 TX9 10, w ∈ Wall := by
  have h1 : ∀ w ∈ u_ws RX9 TX9 10, w ∈ lw_tbl ∧ goodWord w = true := by decide +kernel
  exact fun w hw => List.mem_filter.mpr (h1 w hw)
end
section
theorem dX0_init_0 : decode cX0_init 0 = .ok (.aload_n 0, 1) := by decide +kernel
theorem dX0_init_1 : decode cX0_init 1 = .ok (.invokespecial 3, 3) := by decide +kernel
theorem dX0_init_4 : decode cX0_init 4 = .ok (.aload_n 0, 1) := by decide +kernel
theorem dX0_init_5 : decode cX0_init 5 = .ok (.bipush 8, 2) := by decide +kernel
theorem dX0_init_7 : decode cX0_init 7 = .ok (.newarray .int, 2) := by decide +kernel
theorem dX0_init_9 : decode cX0_init 9 = .ok (.putfield 11, 3) := by decide +kernel
theorem dX0_init_12 : decode cX0_init 12 = .ok (.aload_n 0, 1) := by decide +kernel
theorem dX0_init_13 : decode cX0_init 13 = .ok (.bipush 8, 2) := by decide +kernel
theorem dX0_init_15 : decode cX0_init 15 = .ok (.newarray .int, 2) := by decide +kernel
theorem dX0_init_17 : decode cX0_init 17 = .ok (.putfield 15, 3) := by decide +kernel
theorem dX0_init_20 : decode cX0_init 20 = .ok (.aload_n 0, 1) := by decide +kernel
theorem dX0_init_21 : decode cX0_init 21 = .ok (.bipush 8, 2) := by decide +kernel
theorem dX0_init_23 : decode cX0_init 23 = .ok (.newarray .int, 2) := by decide +kernel
theorem dX0_init_25 : decode cX0_init 25 = .ok (.putfield 18, 3) := by decide +kernel
theorem dX0_init_28 : decode cX0_init 28 = .ok (.aload_n 0, 1) := by decide +kernel
theorem dX0_init_29 : decode cX0_init 29 = .ok (.bipush 8, 2) := by decide +kernel
theorem dX0_init_31 : decode cX0_init 31 = .ok (.newarray .int, 2) := by decide +kernel
theorem dX0_init_33 : decode cX0_init 33 = .ok (.putfield 21, 3) := by decide +kernel
theorem dX0_init_36 : decode cX0_init 36 = .ok (.aload_n 0, 1) := by decide +kernel
theorem dX0_init_37 : decode cX0_init 37 = .ok (.bipush 8, 2) := by decide +kernel
theorem dX0_init_39 : decode cX0_init 39 = .ok (.newarray .int, 2) := by decide +kernel
theorem dX0_init_41 : decode cX0_init 41 = .ok (.putfield 24, 3) := by decide +kernel
theorem dX0_init_44 : decode cX0_init 44 = .ok (.aload_n 0, 1) := by decide +kernel
theorem dX0_init_45 : decode cX0_init 45 = .ok (.iconst 0, 1) := by decide +kernel
theorem dX0_init_46 : decode cX0_init 46 = .ok (.putfield 27, 3) := by decide +kernel
theorem dX0_init_49 : decode cX0_init 49 = .ok (.return_, 1) := by decide +kernel
theorem dX0_isRunning_0 : decode cX0_isRunning 0 = .ok (.iload_n 1, 1) := by decide +kernel
theorem dX0_isRunning_1 : decode cX0_isRunning 1 = .ok (.iconst 0, 1) := by decide +kernel
theorem dX0_isRunning_2 : decode cX0_isRunning 2 = .ok (.bipush 7, 2) := by decide +kernel
theorem dX0_isRunning_4 : decode cX0_isRunning 4 = .ok (.invokestatic 31, 3) := by decide +kernel
theorem dX0_isRunning_7 : decode cX0_isRunning 7 = .ok (.ifCond .eq 27, 3) := by decide +kernel
theorem dX0_isRunning_10 : decode cX0_isRunning 10 = .ok (.aload_n 0, 1) := by decide +kernel
theorem dX0_isRunning_11 : decode cX0_isRunning 11 = .ok (.getfield 21, 3) := by decide +kernel
theorem dX0_isRunning_14 : decode cX0_isRunning 14 = .ok (.iload_n 1, 1) := by decide +kernel
theorem dX0_isRunning_15 : decode cX0_isRunning 15 = .ok (.iaload, 1) := by decide +kernel
theorem dX0_isRunning_16 : decode cX0_isRunning 16 = .ok (.iload_n 2, 1) := by decide +kernel
theorem dX0_isRunning_17 : decode cX0_isRunning 17 = .ok (.if_icmp .gt 17, 3) := by decide +kernel
theorem dX0_isRunning_20 : decode cX0_isRunning 20 = .ok (.iload_n 2, 1) := by decide +kernel
theorem dX0_isRunning_21 : decode cX0_isRunning 21 = .ok (.aload_n 0, 1) := by decide +kernel
theorem dX0_isRunning_22 : decode cX0_isRunning 22 = .ok (.getfield 24, 3) := by decide +kernel
theorem dX0_isRunning_25 : decode cX0_isRunning 25 = .ok (.iload_n 1, 1) := by decide +kernel
theorem dX0_isRunning_26 : decode cX0_isRunning 26 = .ok (.iaload, 1) := by decide +kernel
theorem dX0_isRunning_27 : decode cX0_isRunning 27 = .ok (.if_icmp .ge 7, 3) := by decide +kernel
theorem dX0_isRunning_30 : decode cX0_isRunning 30 = .ok (.iconst 1, 1) := by decide +kernel
theorem dX0_isRunning_31 : decode cX0_isRunning 31 = .ok (.goto 4, 3) := by decide +kernel
theorem dX0_isRunning_34 : decode cX0_isRunning 34 = .ok (.iconst 0, 1) := by decide +kernel
theorem dX0_isRunning_35 : decode cX0_isRunning 35 = .ok (.ireturn, 1) := by decide +kernel
theorem dX0_tellCrosses_0 : decode cX0_tellCrosses 0 = .ok (.iconst 0, 1) := by decide +kernel
theorem dX0_tellCrosses_1 : decode cX0_tellCrosses 1 = .ok (.istore_n 3, 1) := by decide +kernel
theorem dX0_tellCrosses_2 : decode cX0_tellCrosses 2 = .ok (.iload_n 3, 1) := by decide +kernel
theorem dX0_tellCrosses_3 : decode cX0_tellCrosses 3 = .ok (.bipush 8, 2) := by decide +kernel
theorem dX0_tellCrosses_5 : decode cX0_tellCrosses 5 = .ok (.if_icmp .ge 32, 3) := by decide +kernel
theorem dX0_tellCrosses_8 : decode cX0_tellCrosses 8 = .ok (.iload_n 3, 1) := by decide +kernel
theorem dX0_tellCrosses_9 : decode cX0_tellCrosses 9 = .ok (.aload_n 0, 1) := by decide +kernel
theorem dX0_tellCrosses_10 : decode cX0_tellCrosses 10 = .ok (.getfield 27, 3) := by decide +kernel
theorem dX0_tellCrosses_13 : decode cX0_tellCrosses 13 = .ok (.if_icmp .ge 18, 3) := by decide +kernel
theorem dX0_tellCrosses_16 : decode cX0_tellCrosses 16 = .ok (.aload_n 0, 1) := by decide +kernel
theorem dX0_tellCrosses_17 : decode cX0_tellCrosses 17 = .ok (.iload_n 3, 1) := by decide +kernel
theorem dX0_tellCrosses_18 : decode cX0_tellCrosses 18 = .ok (.iload_n 2, 1) := by decide +kernel
theorem dX0_tellCrosses_19 : decode cX0_tellCrosses 19 = .ok (.invokevirtual 41, 3) := by decide +kernel
theorem dX0_tellCrosses_22 : decode cX0_tellCrosses 22 = .ok (.ifCond .eq 9, 3) := by decide +kernel
theorem dX0_tellCrosses_25 : decode cX0_tellCrosses 25 = .ok (.aload_n 0, 1) := by decide +kernel
theorem dX0_tellCrosses_26 : decode cX0_tellCrosses 26 = .ok (.iload_n 3, 1) := by decide +kernel
theorem dX0_tellCrosses_27 : decode cX0_tellCrosses 27 = .ok (.aload_n 1, 1) := by decide +kernel
theorem dX0_tellCrosses_28 : decode cX0_tellCrosses 28 = .ok (.invokevirtual 45, 3) := by decide +kernel
theorem dX0_tellCrosses_31 : decode cX0_tellCrosses 31 = .ok (.iinc 3 1, 3) := by decide +kernel
theorem dX0_tellCrosses_34 : decode cX0_tellCrosses 34 = .ok (.goto (-32), 3) := by decide +kernel
theorem dX0_tellCrosses_37 : decode cX0_tellCrosses 37 = .ok (.return_, 1) := by decide +kernel
theorem dX0_tellCrossesOf_0 : decode cX0_tellCrossesOf 0 = .ok (.iconst 0, 1) := by decide +kernel
theorem dX0_tellCrossesOf_1 : decode cX0_tellCrossesOf 1 = .ok (.istore_n 3, 1) := by decide +kernel
theorem dX0_tellCrossesOf_2 : decode cX0_tellCrossesOf 2 = .ok (.iload_n 3, 1) := by decide +kernel
theorem dX0_tellCrossesOf_3 : decode cX0_tellCrossesOf 3 = .ok (.bipush 12, 2) := by decide +kernel
theorem dX0_tellCrossesOf_5 : decode cX0_tellCrossesOf 5 = .ok (.if_icmp .ge 56, 3) := by decide +kernel
theorem dX0_tellCrossesOf_8 : decode cX0_tellCrossesOf 8 = .ok (.iload_n 3, 1) := by decide +kernel
theorem dX0_tellCrossesOf_9 : decode cX0_tellCrossesOf 9 = .ok (.aload_n 0, 1) := by decide +kernel
theorem dX0_tellCrossesOf_10 : decode cX0_tellCrossesOf 10 = .ok (.getfield 11, 3) := by decide +kernel
theorem dX0_tellCrossesOf_13 : decode cX0_tellCrossesOf 13 = .ok (.iload_n 1, 1) := by decide +kernel
theorem dX0_tellCrossesOf_14 : decode cX0_tellCrossesOf 14 = .ok (.iaload, 1) := by decide +kernel
theorem dX0_tellCrossesOf_15 : decode cX0_tellCrossesOf 15 = .ok (.invokestatic 49, 3) := by decide +kernel
theorem dX0_tellCrossesOf_18 : decode cX0_tellCrossesOf 18 = .ok (.istore 4, 2) := by decide +kernel
theorem dX0_tellCrossesOf_20 : decode cX0_tellCrossesOf 20 = .ok (.iload_n 3, 1) := by decide +kernel
theorem dX0_tellCrossesOf_21 : decode cX0_tellCrossesOf 21 = .ok (.aload_n 0, 1) := by decide +kernel
theorem dX0_tellCrossesOf_22 : decode cX0_tellCrossesOf 22 = .ok (.getfield 15, 3) := by decide +kernel
theorem dX0_tellCrossesOf_25 : decode cX0_tellCrossesOf 25 = .ok (.iload_n 1, 1) := by decide +kernel
theorem dX0_tellCrossesOf_26 : decode cX0_tellCrossesOf 26 = .ok (.iaload, 1) := by decide +kernel
theorem dX0_tellCrossesOf_27 : decode cX0_tellCrossesOf 27 = .ok (.aload_n 0, 1) := by decide +kernel
theorem dX0_tellCrossesOf_28 : decode cX0_tellCrossesOf 28 = .ok (.getfield 18, 3) := by decide +kernel
theorem dX0_tellCrossesOf_31 : decode cX0_tellCrossesOf 31 = .ok (.iload_n 1, 1) := by decide +kernel
theorem dX0_tellCrossesOf_32 : decode cX0_tellCrossesOf 32 = .ok (.iaload, 1) := by decide +kernel
theorem dX0_tellCrossesOf_33 : decode cX0_tellCrossesOf 33 = .ok (.invokestatic 31, 3) := by decide +kernel
theorem dX0_tellCrossesOf_36 : decode cX0_tellCrossesOf 36 = .ok (.ifCond .eq 19, 3) := by decide +kernel
theorem dX0_tellCrossesOf_39 : decode cX0_tellCrossesOf 39 = .ok (.iload 4, 2) := by decide +kernel
theorem dX0_tellCrossesOf_41 : decode cX0_tellCrossesOf 41 = .ok (.iconst 0, 1) := by decide +kernel
theorem dX0_tellCrossesOf_42 : decode cX0_tellCrossesOf 42 = .ok (.bipush 47, 2) := by decide +kernel
theorem dX0_tellCrossesOf_44 : decode cX0_tellCrossesOf 44 = .ok (.invokestatic 31, 3) := by decide +kernel
theorem dX0_tellCrossesOf_47 : decode cX0_tellCrossesOf 47 = .ok (.ifCond .eq 8, 3) := by decide +kernel
theorem dX0_tellCrossesOf_50 : decode cX0_tellCrossesOf 50 = .ok (.aload_n 2, 1) := by decide +kernel
theorem dX0_tellCrossesOf_51 : decode cX0_tellCrossesOf 51 = .ok (.iload 4, 2) := by decide +kernel
theorem dX0_tellCrossesOf_53 : decode cX0_tellCrossesOf 53 = .ok (.iconst 2, 1) := by decide +kernel
theorem dX0_tellCrossesOf_54 : decode cX0_tellCrossesOf 54 = .ok (.iastore, 1) := by decide +kernel
theorem dX0_tellCrossesOf_55 : decode cX0_tellCrossesOf 55 = .ok (.iinc 3 1, 3) := by decide +kernel
theorem dX0_tellCrossesOf_58 : decode cX0_tellCrossesOf 58 = .ok (.goto (-56), 3) := by decide +kernel
theorem dX0_tellCrossesOf_61 : decode cX0_tellCrossesOf 61 = .ok (.return_, 1) := by decide +kernel
theorem dX1_init_0 : decode cX1_init 0 = .ok (.aload_n 0, 1) := by decide +kernel
theorem dX1_init_1 : decode cX1_init 1 = .ok (.invokespecial 3, 3) := by decide +kernel
theorem dX1_init_4 : decode cX1_init 4 = .ok (.aload_n 0, 1) := by decide +kernel
theorem dX1_init_5 : decode cX1_init 5 = .ok (.bipush 12, 2) := by decide +kernel
theorem dX1_init_7 : decode cX1_init 7 = .ok (.newarray .int, 2) := by decide +kernel
theorem dX1_init_9 : decode cX1_init 9 = .ok (.putfield 9, 3) := by decide +kernel
theorem dX1_init_12 : decode cX1_init 12 = .ok (.aload_n 0, 1) := by decide +kernel
theorem dX1_init_13 : decode cX1_init 13 = .ok (.bipush 12, 2) := by decide +kernel
theorem dX1_init_15 : decode cX1_init 15 = .ok (.newarray .int, 2) := by decide +kernel
theorem dX1_init_17 : decode cX1_init 17 = .ok (.putfield 15, 3) := by decide +kernel
theorem dX1_init_20 : decode cX1_init 20 = .ok (.return_, 1) := by decide +kernel
theorem dX1_guessAt_0 : decode cX1_guessAt 0 = .ok (.iconst 0, 1) := by decide +kernel
theorem dX1_guessAt_1 : decode cX1_guessAt 1 = .ok (.istore_n 3, 1) := by decide +kernel
theorem dX1_guessAt_2 : decode cX1_guessAt 2 = .ok (.iconst 0, 1) := by decide +kernel
theorem dX1_guessAt_3 : decode cX1_guessAt 3 = .ok (.istore 4, 2) := by decide +kernel
theorem dX1_guessAt_5 : decode cX1_guessAt 5 = .ok (.iconst 0, 1) := by decide +kernel
theorem dX1_guessAt_6 : decode cX1_guessAt 6 = .ok (.istore 5, 2) := by decide +kernel
theorem dX1_guessAt_8 : decode cX1_guessAt 8 = .ok (.iload 5, 2) := by decide +kernel
theorem dX1_guessAt_10 : decode cX1_guessAt 10 = .ok (.bipush 12, 2) := by decide +kernel
theorem dX1_guessAt_12 : decode cX1_guessAt 12 = .ok (.if_icmp .ge 47, 3) := by decide +kernel
theorem dX1_guessAt_15 : decode cX1_guessAt 15 = .ok (.iload 5, 2) := by decide +kernel
theorem dX1_guessAt_17 : decode cX1_guessAt 17 = .ok (.iload_n 1, 1) := by decide +kernel
theorem dX1_guessAt_18 : decode cX1_guessAt 18 = .ok (.iconst 1, 1) := by decide +kernel
theorem dX1_guessAt_19 : decode cX1_guessAt 19 = .ok (.isub, 1) := by decide +kernel
theorem dX1_guessAt_20 : decode cX1_guessAt 20 = .ok (.if_icmp .eq 11, 3) := by decide +kernel
theorem dX1_guessAt_23 : decode cX1_guessAt 23 = .ok (.iload 5, 2) := by decide +kernel
theorem dX1_guessAt_25 : decode cX1_guessAt 25 = .ok (.iload_n 1, 1) := by decide +kernel
theorem dX1_guessAt_26 : decode cX1_guessAt 26 = .ok (.iconst 1, 1) := by decide +kernel
theorem dX1_guessAt_27 : decode cX1_guessAt 27 = .ok (.iadd, 1) := by decide +kernel
theorem dX1_guessAt_28 : decode cX1_guessAt 28 = .ok (.if_icmp .ne 25, 3) := by decide +kernel
theorem dX1_guessAt_31 : decode cX1_guessAt 31 = .ok (.aload_n 0, 1) := by decide +kernel
theorem dX1_guessAt_32 : decode cX1_guessAt 32 = .ok (.getfield 9, 3) := by decide +kernel
theorem dX1_guessAt_35 : decode cX1_guessAt 35 = .ok (.iload 5, 2) := by decide +kernel
theorem dX1_guessAt_37 : decode cX1_guessAt 37 = .ok (.iaload, 1) := by decide +kernel
theorem dX1_guessAt_38 : decode cX1_guessAt 38 = .ok (.ifCond .ne 15, 3) := by decide +kernel
theorem dX1_guessAt_41 : decode cX1_guessAt 41 = .ok (.iload_n 3, 1) := by decide +kernel
theorem dX1_guessAt_42 : decode cX1_guessAt 42 = .ok (.aload_n 2, 1) := by decide +kernel
theorem dX1_guessAt_43 : decode cX1_guessAt 43 = .ok (.iload 5, 2) := by decide +kernel
theorem dX1_guessAt_45 : decode cX1_guessAt 45 = .ok (.invokevirtual 18, 3) := by decide +kernel
theorem dX1_guessAt_48 : decode cX1_guessAt 48 = .ok (.iadd, 1) := by decide +kernel
theorem dX1_guessAt_49 : decode cX1_guessAt 49 = .ok (.istore_n 3, 1) := by decide +kernel
theorem dX1_guessAt_50 : decode cX1_guessAt 50 = .ok (.iinc 4 1, 3) := by decide +kernel
theorem dX1_guessAt_53 : decode cX1_guessAt 53 = .ok (.iinc 5 1, 3) := by decide +kernel
theorem dX1_guessAt_56 : decode cX1_guessAt 56 = .ok (.goto (-48), 3) := by decide +kernel
theorem dX1_guessAt_59 : decode cX1_guessAt 59 = .ok (.iload 4, 2) := by decide +kernel
theorem dX1_guessAt_61 : decode cX1_guessAt 61 = .ok (.ifCond .ne 7, 3) := by decide +kernel
theorem dX1_guessAt_64 : decode cX1_guessAt 64 = .ok (.iconst (-1), 1) := by decide +kernel
theorem dX1_guessAt_65 : decode cX1_guessAt 65 = .ok (.goto 7, 3) := by decide +kernel
theorem dX1_guessAt_68 : decode cX1_guessAt 68 = .ok (.iload_n 3, 1) := by decide +kernel
theorem dX1_guessAt_69 : decode cX1_guessAt 69 = .ok (.iload 4, 2) := by decide +kernel
theorem dX1_guessAt_71 : decode cX1_guessAt 71 = .ok (.idiv, 1) := by decide +kernel
theorem dX1_guessAt_72 : decode cX1_guessAt 72 = .ok (.ireturn, 1) := by decide +kernel
theorem dX1_beliefAt_0 : decode cX1_beliefAt 0 = .ok (.iload_n 1, 1) := by decide +kernel
theorem dX1_beliefAt_1 : decode cX1_beliefAt 1 = .ok (.iconst 0, 1) := by decide +kernel
theorem dX1_beliefAt_2 : decode cX1_beliefAt 2 = .ok (.bipush 11, 2) := by decide +kernel
theorem dX1_beliefAt_4 : decode cX1_beliefAt 4 = .ok (.invokestatic 24, 3) := by decide +kernel
theorem dX1_beliefAt_7 : decode cX1_beliefAt 7 = .ok (.ifCond .ne 5, 3) := by decide +kernel
theorem dX1_beliefAt_10 : decode cX1_beliefAt 10 = .ok (.iconst (-1), 1) := by decide +kernel
theorem dX1_beliefAt_11 : decode cX1_beliefAt 11 = .ok (.ireturn, 1) := by decide +kernel
theorem dX1_beliefAt_12 : decode cX1_beliefAt 12 = .ok (.aload_n 0, 1) := by decide +kernel
theorem dX1_beliefAt_13 : decode cX1_beliefAt 13 = .ok (.getfield 9, 3) := by decide +kernel
theorem dX1_beliefAt_16 : decode cX1_beliefAt 16 = .ok (.iload_n 1, 1) := by decide +kernel
theorem dX1_beliefAt_17 : decode cX1_beliefAt 17 = .ok (.iaload, 1) := by decide +kernel
theorem dX1_beliefAt_18 : decode cX1_beliefAt 18 = .ok (.ifCond .ne 9, 3) := by decide +kernel
theorem dX1_beliefAt_21 : decode cX1_beliefAt 21 = .ok (.aload_n 2, 1) := by decide +kernel
theorem dX1_beliefAt_22 : decode cX1_beliefAt 22 = .ok (.iload_n 1, 1) := by decide +kernel
theorem dX1_beliefAt_23 : decode cX1_beliefAt 23 = .ok (.invokevirtual 18, 3) := by decide +kernel
theorem dX1_beliefAt_26 : decode cX1_beliefAt 26 = .ok (.ireturn, 1) := by decide +kernel
theorem dX1_beliefAt_27 : decode cX1_beliefAt 27 = .ok (.aload_n 0, 1) := by decide +kernel
theorem dX1_beliefAt_28 : decode cX1_beliefAt 28 = .ok (.iload_n 1, 1) := by decide +kernel
theorem dX1_beliefAt_29 : decode cX1_beliefAt 29 = .ok (.aload_n 2, 1) := by decide +kernel
theorem dX1_beliefAt_30 : decode cX1_beliefAt 30 = .ok (.invokevirtual 28, 3) := by decide +kernel
theorem dX1_beliefAt_33 : decode cX1_beliefAt 33 = .ok (.istore_n 3, 1) := by decide +kernel
theorem dX1_beliefAt_34 : decode cX1_beliefAt 34 = .ok (.aload_n 0, 1) := by decide +kernel
theorem dX1_beliefAt_35 : decode cX1_beliefAt 35 = .ok (.getfield 9, 3) := by decide +kernel
theorem dX1_beliefAt_38 : decode cX1_beliefAt 38 = .ok (.iload_n 1, 1) := by decide +kernel
theorem dX1_beliefAt_39 : decode cX1_beliefAt 39 = .ok (.iaload, 1) := by decide +kernel
theorem dX1_beliefAt_40 : decode cX1_beliefAt 40 = .ok (.iconst 2, 1) := by decide +kernel
theorem dX1_beliefAt_41 : decode cX1_beliefAt 41 = .ok (.if_icmp .ne 5, 3) := by decide +kernel
theorem dX1_beliefAt_44 : decode cX1_beliefAt 44 = .ok (.iload_n 3, 1) := by decide +kernel
theorem dX1_beliefAt_45 : decode cX1_beliefAt 45 = .ok (.ireturn, 1) := by decide +kernel
theorem dX1_beliefAt_46 : decode cX1_beliefAt 46 = .ok (.aload_n 0, 1) := by decide +kernel
theorem dX1_beliefAt_47 : decode cX1_beliefAt 47 = .ok (.getfield 15, 3) := by decide +kernel
theorem dX1_beliefAt_50 : decode cX1_beliefAt 50 = .ok (.iload_n 1, 1) := by decide +kernel
theorem dX1_beliefAt_51 : decode cX1_beliefAt 51 = .ok (.iaload, 1) := by decide +kernel
theorem dX1_beliefAt_52 : decode cX1_beliefAt 52 = .ok (.istore 4, 2) := by decide +kernel
theorem dX1_beliefAt_54 : decode cX1_beliefAt 54 = .ok (.iload_n 3, 1) := by decide +kernel
theorem dX1_beliefAt_55 : decode cX1_beliefAt 55 = .ok (.iconst (-1), 1) := by decide +kernel
theorem dX1_beliefAt_56 : decode cX1_beliefAt 56 = .ok (.if_icmp .eq 19, 3) := by decide +kernel
theorem dX1_beliefAt_59 : decode cX1_beliefAt 59 = .ok (.iload_n 3, 1) := by decide +kernel
theorem dX1_beliefAt_60 : decode cX1_beliefAt 60 = .ok (.iload 4, 2) := by decide +kernel
theorem dX1_beliefAt_62 : decode cX1_beliefAt 62 = .ok (.isub, 1) := by decide +kernel
theorem dX1_beliefAt_63 : decode cX1_beliefAt 63 = .ok (.invokestatic 32, 3) := by decide +kernel
theorem dX1_beliefAt_66 : decode cX1_beliefAt 66 = .ok (.bipush 30, 2) := by decide +kernel
theorem dX1_beliefAt_68 : decode cX1_beliefAt 68 = .ok (.if_icmp .le 7, 3) := by decide +kernel
theorem dX1_beliefAt_71 : decode cX1_beliefAt 71 = .ok (.iload_n 3, 1) := by decide +kernel
theorem dX1_beliefAt_72 : decode cX1_beliefAt 72 = .ok (.goto 5, 3) := by decide +kernel
theorem dX1_beliefAt_75 : decode cX1_beliefAt 75 = .ok (.iload 4, 2) := by decide +kernel
theorem dX1_beliefAt_77 : decode cX1_beliefAt 77 = .ok (.ireturn, 1) := by decide +kernel
theorem dX2_init_0 : decode cX2_init 0 = .ok (.aload_n 0, 1) := by decide +kernel
theorem dX2_init_1 : decode cX2_init 1 = .ok (.invokespecial 3, 3) := by decide +kernel
theorem dX2_init_4 : decode cX2_init 4 = .ok (.aload_n 0, 1) := by decide +kernel
theorem dX2_init_5 : decode cX2_init 5 = .ok (.bipush 12, 2) := by decide +kernel
theorem dX2_init_7 : decode cX2_init 7 = .ok (.newarray .int, 2) := by decide +kernel
theorem dX2_init_9 : decode cX2_init 9 = .ok (.putfield 11, 3) := by decide +kernel
theorem dX2_init_12 : decode cX2_init 12 = .ok (.aload_n 0, 1) := by decide +kernel
theorem dX2_init_13 : decode cX2_init 13 = .ok (.bipush 12, 2) := by decide +kernel
theorem dX2_init_15 : decode cX2_init 15 = .ok (.newarray .int, 2) := by decide +kernel
theorem dX2_init_17 : decode cX2_init 17 = .ok (.putfield 15, 3) := by decide +kernel
theorem dX2_init_20 : decode cX2_init 20 = .ok (.aload_n 0, 1) := by decide +kernel
theorem dX2_init_21 : decode cX2_init 21 = .ok (.bipush 12, 2) := by decide +kernel
theorem dX2_init_23 : decode cX2_init 23 = .ok (.newarray .int, 2) := by decide +kernel
theorem dX2_init_25 : decode cX2_init 25 = .ok (.putfield 18, 3) := by decide +kernel
theorem dX2_init_28 : decode cX2_init 28 = .ok (.aload_n 0, 1) := by decide +kernel
theorem dX2_init_29 : decode cX2_init 29 = .ok (.iconst 0, 1) := by decide +kernel
theorem dX2_init_30 : decode cX2_init 30 = .ok (.putfield 21, 3) := by decide +kernel
theorem dX2_init_33 : decode cX2_init 33 = .ok (.return_, 1) := by decide +kernel
theorem dX2_tellCrosses_0 : decode cX2_tellCrosses 0 = .ok (.iconst 0, 1) := by decide +kernel
theorem dX2_tellCrosses_1 : decode cX2_tellCrosses 1 = .ok (.istore_n 2, 1) := by decide +kernel
theorem dX2_tellCrosses_2 : decode cX2_tellCrosses 2 = .ok (.iload_n 2, 1) := by decide +kernel
theorem dX2_tellCrosses_3 : decode cX2_tellCrosses 3 = .ok (.bipush 12, 2) := by decide +kernel
theorem dX2_tellCrosses_5 : decode cX2_tellCrosses 5 = .ok (.if_icmp .ge 51, 3) := by decide +kernel
theorem dX2_tellCrosses_8 : decode cX2_tellCrosses 8 = .ok (.iload_n 2, 1) := by decide +kernel
theorem dX2_tellCrosses_9 : decode cX2_tellCrosses 9 = .ok (.aload_n 0, 1) := by decide +kernel
theorem dX2_tellCrosses_10 : decode cX2_tellCrosses 10 = .ok (.getfield 21, 3) := by decide +kernel
theorem dX2_tellCrosses_13 : decode cX2_tellCrosses 13 = .ok (.if_icmp .ge 37, 3) := by decide +kernel
theorem dX2_tellCrosses_16 : decode cX2_tellCrosses 16 = .ok (.aload_n 0, 1) := by decide +kernel
theorem dX2_tellCrosses_17 : decode cX2_tellCrosses 17 = .ok (.getfield 15, 3) := by decide +kernel
theorem dX2_tellCrosses_20 : decode cX2_tellCrosses 20 = .ok (.iload_n 2, 1) := by decide +kernel
theorem dX2_tellCrosses_21 : decode cX2_tellCrosses 21 = .ok (.iaload, 1) := by decide +kernel
theorem dX2_tellCrosses_22 : decode cX2_tellCrosses 22 = .ok (.iconst 1, 1) := by decide +kernel
theorem dX2_tellCrosses_23 : decode cX2_tellCrosses 23 = .ok (.if_icmp .ne 27, 3) := by decide +kernel
theorem dX2_tellCrosses_26 : decode cX2_tellCrosses 26 = .ok (.aload_n 0, 1) := by decide +kernel
theorem dX2_tellCrosses_27 : decode cX2_tellCrosses 27 = .ok (.getfield 11, 3) := by decide +kernel
theorem dX2_tellCrosses_30 : decode cX2_tellCrosses 30 = .ok (.iload_n 2, 1) := by decide +kernel
theorem dX2_tellCrosses_31 : decode cX2_tellCrosses 31 = .ok (.iaload, 1) := by decide +kernel
theorem dX2_tellCrosses_32 : decode cX2_tellCrosses 32 = .ok (.iconst 0, 1) := by decide +kernel
theorem dX2_tellCrosses_33 : decode cX2_tellCrosses 33 = .ok (.bipush 47, 2) := by decide +kernel
theorem dX2_tellCrosses_35 : decode cX2_tellCrosses 35 = .ok (.invokestatic 25, 3) := by decide +kernel
theorem dX2_tellCrosses_38 : decode cX2_tellCrosses 38 = .ok (.ifCond .eq 12, 3) := by decide +kernel
theorem dX2_tellCrosses_41 : decode cX2_tellCrosses 41 = .ok (.aload_n 1, 1) := by decide +kernel
theorem dX2_tellCrosses_42 : decode cX2_tellCrosses 42 = .ok (.aload_n 0, 1) := by decide +kernel
theorem dX2_tellCrosses_43 : decode cX2_tellCrosses 43 = .ok (.getfield 11, 3) := by decide +kernel
theorem dX2_tellCrosses_46 : decode cX2_tellCrosses 46 = .ok (.iload_n 2, 1) := by decide +kernel
theorem dX2_tellCrosses_47 : decode cX2_tellCrosses 47 = .ok (.iaload, 1) := by decide +kernel
theorem dX2_tellCrosses_48 : decode cX2_tellCrosses 48 = .ok (.iconst 2, 1) := by decide +kernel
theorem dX2_tellCrosses_49 : decode cX2_tellCrosses 49 = .ok (.iastore, 1) := by decide +kernel
theorem dX2_tellCrosses_50 : decode cX2_tellCrosses 50 = .ok (.iinc 2 1, 3) := by decide +kernel
theorem dX2_tellCrosses_53 : decode cX2_tellCrosses 53 = .ok (.goto (-51), 3) := by decide +kernel
theorem dX2_tellCrosses_56 : decode cX2_tellCrosses 56 = .ok (.return_, 1) := by decide +kernel
theorem dX3_init_0 : decode cX3_init 0 = .ok (.aload_n 0, 1) := by decide +kernel
theorem dX3_init_1 : decode cX3_init 1 = .ok (.invokespecial 3, 3) := by decide +kernel
theorem dX3_init_4 : decode cX3_init 4 = .ok (.aload_n 0, 1) := by decide +kernel
theorem dX3_init_5 : decode cX3_init 5 = .ok (.bipush 48, 2) := by decide +kernel
theorem dX3_init_7 : decode cX3_init 7 = .ok (.newarray .int, 2) := by decide +kernel
theorem dX3_init_9 : decode cX3_init 9 = .ok (.putfield 9, 3) := by decide +kernel
theorem dX3_init_12 : decode cX3_init 12 = .ok (.aload_n 0, 1) := by decide +kernel
theorem dX3_init_13 : decode cX3_init 13 = .ok (.bipush 48, 2) := by decide +kernel
theorem dX3_init_15 : decode cX3_init 15 = .ok (.newarray .int, 2) := by decide +kernel
theorem dX3_init_17 : decode cX3_init 17 = .ok (.putfield 15, 3) := by decide +kernel
theorem dX3_init_20 : decode cX3_init 20 = .ok (.aload_n 0, 1) := by decide +kernel
theorem dX3_init_21 : decode cX3_init 21 = .ok (.bipush 48, 2) := by decide +kernel
theorem dX3_init_23 : decode cX3_init 23 = .ok (.newarray .int, 2) := by decide +kernel
theorem dX3_init_25 : decode cX3_init 25 = .ok (.putfield 18, 3) := by decide +kernel
theorem dX3_init_28 : decode cX3_init 28 = .ok (.iconst 0, 1) := by decide +kernel
theorem dX3_init_29 : decode cX3_init 29 = .ok (.istore_n 1, 1) := by decide +kernel
theorem dX3_init_30 : decode cX3_init 30 = .ok (.iload_n 1, 1) := by decide +kernel
theorem dX3_init_31 : decode cX3_init 31 = .ok (.bipush 48, 2) := by decide +kernel
theorem dX3_init_33 : decode cX3_init 33 = .ok (.if_icmp .ge 16, 3) := by decide +kernel
theorem dX3_init_36 : decode cX3_init 36 = .ok (.aload_n 0, 1) := by decide +kernel
theorem dX3_init_37 : decode cX3_init 37 = .ok (.getfield 9, 3) := by decide +kernel
theorem dX3_init_40 : decode cX3_init 40 = .ok (.iload_n 1, 1) := by decide +kernel
theorem dX3_init_41 : decode cX3_init 41 = .ok (.iconst (-1), 1) := by decide +kernel
theorem dX3_init_42 : decode cX3_init 42 = .ok (.iastore, 1) := by decide +kernel
theorem dX3_init_43 : decode cX3_init 43 = .ok (.iinc 1 1, 3) := by decide +kernel
theorem dX3_init_46 : decode cX3_init 46 = .ok (.goto (-16), 3) := by decide +kernel
theorem dX3_init_49 : decode cX3_init 49 = .ok (.return_, 1) := by decide +kernel
theorem dX3_setAnew_0 : decode cX3_setAnew 0 = .ok (.iconst 0, 1) := by decide +kernel
theorem dX3_setAnew_1 : decode cX3_setAnew 1 = .ok (.istore 5, 2) := by decide +kernel
theorem dX3_setAnew_3 : decode cX3_setAnew 3 = .ok (.iload 5, 2) := by decide +kernel
theorem dX3_setAnew_5 : decode cX3_setAnew 5 = .ok (.bipush 48, 2) := by decide +kernel
theorem dX3_setAnew_7 : decode cX3_setAnew 7 = .ok (.if_icmp .ge 17, 3) := by decide +kernel
theorem dX3_setAnew_10 : decode cX3_setAnew 10 = .ok (.aload_n 0, 1) := by decide +kernel
theorem dX3_setAnew_11 : decode cX3_setAnew 11 = .ok (.getfield 15, 3) := by decide +kernel
theorem dX3_setAnew_14 : decode cX3_setAnew 14 = .ok (.iload 5, 2) := by decide +kernel
theorem dX3_setAnew_16 : decode cX3_setAnew 16 = .ok (.iconst 0, 1) := by decide +kernel
theorem dX3_setAnew_17 : decode cX3_setAnew 17 = .ok (.iastore, 1) := by decide +kernel
theorem dX3_setAnew_18 : decode cX3_setAnew 18 = .ok (.iinc 5 1, 3) := by decide +kernel
theorem dX3_setAnew_21 : decode cX3_setAnew 21 = .ok (.goto (-18), 3) := by decide +kernel
theorem dX3_setAnew_24 : decode cX3_setAnew 24 = .ok (.aload_n 2, 1) := by decide +kernel
theorem dX3_setAnew_25 : decode cX3_setAnew 25 = .ok (.aload_n 0, 1) := by decide +kernel
theorem dX3_setAnew_26 : decode cX3_setAnew 26 = .ok (.getfield 15, 3) := by decide +kernel
theorem dX3_setAnew_29 : decode cX3_setAnew 29 = .ok (.invokevirtual 21, 3) := by decide +kernel
theorem dX3_setAnew_32 : decode cX3_setAnew 32 = .ok (.aload_n 3, 1) := by decide +kernel
theorem dX3_setAnew_33 : decode cX3_setAnew 33 = .ok (.aload_n 0, 1) := by decide +kernel
theorem dX3_setAnew_34 : decode cX3_setAnew 34 = .ok (.getfield 15, 3) := by decide +kernel
theorem dX3_setAnew_37 : decode cX3_setAnew 37 = .ok (.invokevirtual 27, 3) := by decide +kernel
theorem dX3_setAnew_40 : decode cX3_setAnew 40 = .ok (.aload 4, 2) := by decide +kernel
theorem dX3_setAnew_42 : decode cX3_setAnew 42 = .ok (.aload_n 0, 1) := by decide +kernel
theorem dX3_setAnew_43 : decode cX3_setAnew 43 = .ok (.getfield 15, 3) := by decide +kernel
theorem dX3_setAnew_46 : decode cX3_setAnew 46 = .ok (.iload_n 1, 1) := by decide +kernel
theorem dX3_setAnew_47 : decode cX3_setAnew 47 = .ok (.invokevirtual 30, 3) := by decide +kernel
theorem dX3_setAnew_50 : decode cX3_setAnew 50 = .ok (.iconst 0, 1) := by decide +kernel
theorem dX3_setAnew_51 : decode cX3_setAnew 51 = .ok (.istore 5, 2) := by decide +kernel
theorem dX3_setAnew_53 : decode cX3_setAnew 53 = .ok (.iload 5, 2) := by decide +kernel
theorem dX3_setAnew_55 : decode cX3_setAnew 55 = .ok (.bipush 48, 2) := by decide +kernel
theorem dX3_setAnew_57 : decode cX3_setAnew 57 = .ok (.if_icmp .ge 34, 3) := by decide +kernel
theorem dX3_setAnew_60 : decode cX3_setAnew 60 = .ok (.aload_n 0, 1) := by decide +kernel
theorem dX3_setAnew_61 : decode cX3_setAnew 61 = .ok (.getfield 9, 3) := by decide +kernel
theorem dX3_setAnew_64 : decode cX3_setAnew 64 = .ok (.iload 5, 2) := by decide +kernel
theorem dX3_setAnew_66 : decode cX3_setAnew 66 = .ok (.iaload, 1) := by decide +kernel
theorem dX3_setAnew_67 : decode cX3_setAnew 67 = .ok (.iconst (-1), 1) := by decide +kernel
theorem dX3_setAnew_68 : decode cX3_setAnew 68 = .ok (.if_icmp .eq 17, 3) := by decide +kernel
theorem dX3_setAnew_71 : decode cX3_setAnew 71 = .ok (.aload_n 0, 1) := by decide +kernel
theorem dX3_setAnew_72 : decode cX3_setAnew 72 = .ok (.getfield 15, 3) := by decide +kernel
theorem dX3_setAnew_75 : decode cX3_setAnew 75 = .ok (.iload 5, 2) := by decide +kernel
theorem dX3_setAnew_77 : decode cX3_setAnew 77 = .ok (.aload_n 0, 1) := by decide +kernel
theorem dX3_setAnew_78 : decode cX3_setAnew 78 = .ok (.getfield 9, 3) := by decide +kernel
theorem dX3_setAnew_81 : decode cX3_setAnew 81 = .ok (.iload 5, 2) := by decide +kernel
theorem dX3_setAnew_83 : decode cX3_setAnew 83 = .ok (.iaload, 1) := by decide +kernel
theorem dX3_setAnew_84 : decode cX3_setAnew 84 = .ok (.iastore, 1) := by decide +kernel
theorem dX3_setAnew_85 : decode cX3_setAnew 85 = .ok (.iinc 5 1, 3) := by decide +kernel
theorem dX3_setAnew_88 : decode cX3_setAnew 88 = .ok (.goto (-35), 3) := by decide +kernel
theorem dX3_setAnew_91 : decode cX3_setAnew 91 = .ok (.iconst 0, 1) := by decide +kernel
theorem dX3_setAnew_92 : decode cX3_setAnew 92 = .ok (.istore 5, 2) := by decide +kernel
theorem dX3_setAnew_94 : decode cX3_setAnew 94 = .ok (.iload 5, 2) := by decide +kernel
theorem dX3_setAnew_96 : decode cX3_setAnew 96 = .ok (.bipush 48, 2) := by decide +kernel
theorem dX3_setAnew_98 : decode cX3_setAnew 98 = .ok (.if_icmp .ge 49, 3) := by decide +kernel
theorem dX3_setAnew_101 : decode cX3_setAnew 101 = .ok (.aload_n 0, 1) := by decide +kernel
theorem dX3_setAnew_102 : decode cX3_setAnew 102 = .ok (.getfield 18, 3) := by decide +kernel
theorem dX3_setAnew_105 : decode cX3_setAnew 105 = .ok (.iload 5, 2) := by decide +kernel
theorem dX3_setAnew_107 : decode cX3_setAnew 107 = .ok (.aload_n 0, 1) := by decide +kernel
theorem dX3_setAnew_108 : decode cX3_setAnew 108 = .ok (.getfield 15, 3) := by decide +kernel
theorem dX3_setAnew_111 : decode cX3_setAnew 111 = .ok (.iload 5, 2) := by decide +kernel
theorem dX3_setAnew_113 : decode cX3_setAnew 113 = .ok (.iaload, 1) := by decide +kernel
theorem dX3_setAnew_114 : decode cX3_setAnew 114 = .ok (.ifCond .ne 19, 3) := by decide +kernel
theorem dX3_setAnew_117 : decode cX3_setAnew 117 = .ok (.iload 5, 2) := by decide +kernel
theorem dX3_setAnew_119 : decode cX3_setAnew 119 = .ok (.aload_n 0, 1) := by decide +kernel
theorem dX3_setAnew_120 : decode cX3_setAnew 120 = .ok (.getfield 15, 3) := by decide +kernel
theorem dX3_setAnew_123 : decode cX3_setAnew 123 = .ok (.invokestatic 35, 3) := by decide +kernel
theorem dX3_setAnew_126 : decode cX3_setAnew 126 = .ok (.ifCond .eq 7, 3) := by decide +kernel
theorem dX3_setAnew_129 : decode cX3_setAnew 129 = .ok (.iconst 1, 1) := by decide +kernel
theorem dX3_setAnew_130 : decode cX3_setAnew 130 = .ok (.goto 10, 3) := by decide +kernel
theorem dX3_setAnew_133 : decode cX3_setAnew 133 = .ok (.aload_n 0, 1) := by decide +kernel
theorem dX3_setAnew_134 : decode cX3_setAnew 134 = .ok (.getfield 15, 3) := by decide +kernel
theorem dX3_setAnew_137 : decode cX3_setAnew 137 = .ok (.iload 5, 2) := by decide +kernel
theorem dX3_setAnew_139 : decode cX3_setAnew 139 = .ok (.iaload, 1) := by decide +kernel
theorem dX3_setAnew_140 : decode cX3_setAnew 140 = .ok (.iastore, 1) := by decide +kernel
theorem dX3_setAnew_141 : decode cX3_setAnew 141 = .ok (.iinc 5 1, 3) := by decide +kernel
theorem dX3_setAnew_144 : decode cX3_setAnew 144 = .ok (.goto (-50), 3) := by decide +kernel
theorem dX3_setAnew_147 : decode cX3_setAnew 147 = .ok (.return_, 1) := by decide +kernel
theorem dX3_areLawful_0 : decode cX3_areLawful 0 = .ok (.iconst 0, 1) := by decide +kernel
theorem dX3_areLawful_1 : decode cX3_areLawful 1 = .ok (.istore_n 1, 1) := by decide +kernel
theorem dX3_areLawful_2 : decode cX3_areLawful 2 = .ok (.iload_n 1, 1) := by decide +kernel
theorem dX3_areLawful_3 : decode cX3_areLawful 3 = .ok (.bipush 48, 2) := by decide +kernel
theorem dX3_areLawful_5 : decode cX3_areLawful 5 = .ok (.if_icmp .ge 31, 3) := by decide +kernel
theorem dX3_areLawful_8 : decode cX3_areLawful 8 = .ok (.aload_n 0, 1) := by decide +kernel
theorem dX3_areLawful_9 : decode cX3_areLawful 9 = .ok (.getfield 18, 3) := by decide +kernel
theorem dX3_areLawful_12 : decode cX3_areLawful 12 = .ok (.iload_n 1, 1) := by decide +kernel
theorem dX3_areLawful_13 : decode cX3_areLawful 13 = .ok (.iaload, 1) := by decide +kernel
theorem dX3_areLawful_14 : decode cX3_areLawful 14 = .ok (.ifCond .ne 16, 3) := by decide +kernel
theorem dX3_areLawful_17 : decode cX3_areLawful 17 = .ok (.iload_n 1, 1) := by decide +kernel
theorem dX3_areLawful_18 : decode cX3_areLawful 18 = .ok (.aload_n 0, 1) := by decide +kernel
theorem dX3_areLawful_19 : decode cX3_areLawful 19 = .ok (.getfield 18, 3) := by decide +kernel
theorem dX3_areLawful_22 : decode cX3_areLawful 22 = .ok (.invokestatic 35, 3) := by decide +kernel
theorem dX3_areLawful_25 : decode cX3_areLawful 25 = .ok (.ifCond .eq 5, 3) := by decide +kernel
theorem dX3_areLawful_28 : decode cX3_areLawful 28 = .ok (.iconst 0, 1) := by decide +kernel
theorem dX3_areLawful_29 : decode cX3_areLawful 29 = .ok (.ireturn, 1) := by decide +kernel
theorem dX3_areLawful_30 : decode cX3_areLawful 30 = .ok (.iinc 1 1, 3) := by decide +kernel
theorem dX3_areLawful_33 : decode cX3_areLawful 33 = .ok (.goto (-31), 3) := by decide +kernel
theorem dX3_areLawful_36 : decode cX3_areLawful 36 = .ok (.iconst 1, 1) := by decide +kernel
theorem dX3_areLawful_37 : decode cX3_areLawful 37 = .ok (.ireturn, 1) := by decide +kernel
theorem dX3_isAheadOfCross_0 : decode cX3_isAheadOfCross 0 = .ok (.iload_n 0, 1) := by decide +kernel
theorem dX3_isAheadOfCross_1 : decode cX3_isAheadOfCross 1 = .ok (.iconst 4, 1) := by decide +kernel
theorem dX3_isAheadOfCross_2 : decode cX3_isAheadOfCross 2 = .ok (.iadd, 1) := by decide +kernel
theorem dX3_isAheadOfCross_3 : decode cX3_isAheadOfCross 3 = .ok (.istore_n 2, 1) := by decide +kernel
theorem dX3_isAheadOfCross_4 : decode cX3_isAheadOfCross 4 = .ok (.iload_n 2, 1) := by decide +kernel
theorem dX3_isAheadOfCross_5 : decode cX3_isAheadOfCross 5 = .ok (.iconst 0, 1) := by decide +kernel
theorem dX3_isAheadOfCross_6 : decode cX3_isAheadOfCross 6 = .ok (.bipush 47, 2) := by decide +kernel
theorem dX3_isAheadOfCross_8 : decode cX3_isAheadOfCross 8 = .ok (.invokestatic 39, 3) := by decide +kernel
theorem dX3_isAheadOfCross_11 : decode cX3_isAheadOfCross 11 = .ok (.ifCond .eq 14, 3) := by decide +kernel
theorem dX3_isAheadOfCross_14 : decode cX3_isAheadOfCross 14 = .ok (.aload_n 1, 1) := by decide +kernel
theorem dX3_isAheadOfCross_15 : decode cX3_isAheadOfCross 15 = .ok (.iload_n 2, 1) := by decide +kernel
theorem dX3_isAheadOfCross_16 : decode cX3_isAheadOfCross 16 = .ok (.iaload, 1) := by decide +kernel
theorem dX3_isAheadOfCross_17 : decode cX3_isAheadOfCross 17 = .ok (.iconst 2, 1) := by decide +kernel
theorem dX3_isAheadOfCross_18 : decode cX3_isAheadOfCross 18 = .ok (.if_icmp .ne 7, 3) := by decide +kernel
theorem dX3_isAheadOfCross_21 : decode cX3_isAheadOfCross 21 = .ok (.iconst 1, 1) := by decide +kernel
theorem dX3_isAheadOfCross_22 : decode cX3_isAheadOfCross 22 = .ok (.goto 4, 3) := by decide +kernel
theorem dX3_isAheadOfCross_25 : decode cX3_isAheadOfCross 25 = .ok (.iconst 0, 1) := by decide +kernel
theorem dX3_isAheadOfCross_26 : decode cX3_isAheadOfCross 26 = .ok (.ireturn, 1) := by decide +kernel
theorem dX4_init_0 : decode cX4_init 0 = .ok (.aload_n 0, 1) := by decide +kernel
theorem dX4_init_1 : decode cX4_init 1 = .ok (.invokespecial 3, 3) := by decide +kernel
theorem dX4_init_4 : decode cX4_init 4 = .ok (.aload_n 0, 1) := by decide +kernel
theorem dX4_init_5 : decode cX4_init 5 = .ok (.iconst 3, 1) := by decide +kernel
theorem dX4_init_6 : decode cX4_init 6 = .ok (.newarray .int, 2) := by decide +kernel
theorem dX4_init_8 : decode cX4_init 8 = .ok (.putfield 11, 3) := by decide +kernel
theorem dX4_init_11 : decode cX4_init 11 = .ok (.aload_n 0, 1) := by decide +kernel
theorem dX4_init_12 : decode cX4_init 12 = .ok (.iconst 3, 1) := by decide +kernel
theorem dX4_init_13 : decode cX4_init 13 = .ok (.newarray .int, 2) := by decide +kernel
theorem dX4_init_15 : decode cX4_init 15 = .ok (.dup, 1) := by decide +kernel
theorem dX4_init_16 : decode cX4_init 16 = .ok (.iconst 0, 1) := by decide +kernel
theorem dX4_init_17 : decode cX4_init 17 = .ok (.iconst (-1), 1) := by decide +kernel
theorem dX4_init_18 : decode cX4_init 18 = .ok (.iastore, 1) := by decide +kernel
theorem dX4_init_19 : decode cX4_init 19 = .ok (.dup, 1) := by decide +kernel
theorem dX4_init_20 : decode cX4_init 20 = .ok (.iconst 1, 1) := by decide +kernel
theorem dX4_init_21 : decode cX4_init 21 = .ok (.iconst (-1), 1) := by decide +kernel
theorem dX4_init_22 : decode cX4_init 22 = .ok (.iastore, 1) := by decide +kernel
theorem dX4_init_23 : decode cX4_init 23 = .ok (.dup, 1) := by decide +kernel
theorem dX4_init_24 : decode cX4_init 24 = .ok (.iconst 2, 1) := by decide +kernel
theorem dX4_init_25 : decode cX4_init 25 = .ok (.iconst (-1), 1) := by decide +kernel
theorem dX4_init_26 : decode cX4_init 26 = .ok (.iastore, 1) := by decide +kernel
theorem dX4_init_27 : decode cX4_init 27 = .ok (.putfield 15, 3) := by decide +kernel
theorem dX4_init_30 : decode cX4_init 30 = .ok (.aload_n 0, 1) := by decide +kernel
theorem dX4_init_31 : decode cX4_init 31 = .ok (.iconst 3, 1) := by decide +kernel
theorem dX4_init_32 : decode cX4_init 32 = .ok (.newarray .int, 2) := by decide +kernel
theorem dX4_init_34 : decode cX4_init 34 = .ok (.putfield 18, 3) := by decide +kernel
theorem dX4_init_37 : decode cX4_init 37 = .ok (.return_, 1) := by decide +kernel
theorem dX5_init_0 : decode cX5_init 0 = .ok (.aload_n 0, 1) := by decide +kernel
theorem dX5_init_1 : decode cX5_init 1 = .ok (.invokespecial 3, 3) := by decide +kernel
theorem dX5_init_4 : decode cX5_init 4 = .ok (.aload_n 0, 1) := by decide +kernel
theorem dX5_init_5 : decode cX5_init 5 = .ok (.sipush 720, 3) := by decide +kernel
theorem dX5_init_8 : decode cX5_init 8 = .ok (.newarray .int, 2) := by decide +kernel
theorem dX5_init_10 : decode cX5_init 10 = .ok (.putfield 11, 3) := by decide +kernel
theorem dX5_init_13 : decode cX5_init 13 = .ok (.return_, 1) := by decide +kernel
theorem dX5_isKept_0 : decode cX5_isKept 0 = .ok (.iload_n 0, 1) := by decide +kernel
theorem dX5_isKept_1 : decode cX5_isKept 1 = .ok (.iload_n 1, 1) := by decide +kernel
theorem dX5_isKept_2 : decode cX5_isKept 2 = .ok (.bipush 60, 2) := by decide +kernel
theorem dX5_isKept_4 : decode cX5_isKept 4 = .ok (.isub, 1) := by decide +kernel
theorem dX5_isKept_5 : decode cX5_isKept 5 = .ok (.iconst 1, 1) := by decide +kernel
theorem dX5_isKept_6 : decode cX5_isKept 6 = .ok (.iadd, 1) := by decide +kernel
theorem dX5_isKept_7 : decode cX5_isKept 7 = .ok (.iload_n 1, 1) := by decide +kernel
theorem dX5_isKept_8 : decode cX5_isKept 8 = .ok (.invokestatic 15, 3) := by decide +kernel
theorem dX5_isKept_11 : decode cX5_isKept 11 = .ok (.ireturn, 1) := by decide +kernel
theorem dX5_keep_0 : decode cX5_keep 0 = .ok (.iconst 0, 1) := by decide +kernel
theorem dX5_keep_1 : decode cX5_keep 1 = .ok (.istore 4, 2) := by decide +kernel
theorem dX5_keep_3 : decode cX5_keep 3 = .ok (.iload 4, 2) := by decide +kernel
theorem dX5_keep_5 : decode cX5_keep 5 = .ok (.bipush 12, 2) := by decide +kernel
theorem dX5_keep_7 : decode cX5_keep 7 = .ok (.if_icmp .ge 58, 3) := by decide +kernel
theorem dX5_keep_10 : decode cX5_keep 10 = .ok (.aload_n 2, 1) := by decide +kernel
theorem dX5_keep_11 : decode cX5_keep 11 = .ok (.iload 4, 2) := by decide +kernel
theorem dX5_keep_13 : decode cX5_keep 13 = .ok (.iaload, 1) := by decide +kernel
theorem dX5_keep_14 : decode cX5_keep 14 = .ok (.istore 5, 2) := by decide +kernel
theorem dX5_keep_16 : decode cX5_keep 16 = .ok (.iconst 3, 1) := by decide +kernel
theorem dX5_keep_17 : decode cX5_keep 17 = .ok (.istore 6, 2) := by decide +kernel
theorem dX5_keep_19 : decode cX5_keep 19 = .ok (.iload 6, 2) := by decide +kernel
theorem dX5_keep_21 : decode cX5_keep 21 = .ok (.ifCond .lt 25, 3) := by decide +kernel
theorem dX5_keep_24 : decode cX5_keep 24 = .ok (.iload 5, 2) := by decide +kernel
theorem dX5_keep_26 : decode cX5_keep 26 = .ok (.iconst 4, 1) := by decide +kernel
theorem dX5_keep_27 : decode cX5_keep 27 = .ok (.imul, 1) := by decide +kernel
theorem dX5_keep_28 : decode cX5_keep 28 = .ok (.aload_n 3, 1) := by decide +kernel
theorem dX5_keep_29 : decode cX5_keep 29 = .ok (.iload 4, 2) := by decide +kernel
theorem dX5_keep_31 : decode cX5_keep 31 = .ok (.iload 6, 2) := by decide +kernel
theorem dX5_keep_33 : decode cX5_keep 33 = .ok (.invokestatic 19, 3) := by decide +kernel
theorem dX5_keep_36 : decode cX5_keep 36 = .ok (.iaload, 1) := by decide +kernel
theorem dX5_keep_37 : decode cX5_keep 37 = .ok (.iadd, 1) := by decide +kernel
theorem dX5_keep_38 : decode cX5_keep 38 = .ok (.istore 5, 2) := by decide +kernel
theorem dX5_keep_40 : decode cX5_keep 40 = .ok (.iinc 6 (-1), 3) := by decide +kernel
theorem dX5_keep_43 : decode cX5_keep 43 = .ok (.goto (-24), 3) := by decide +kernel
theorem dX5_keep_46 : decode cX5_keep 46 = .ok (.aload_n 0, 1) := by decide +kernel
theorem dX5_keep_47 : decode cX5_keep 47 = .ok (.getfield 11, 3) := by decide +kernel
theorem dX5_keep_50 : decode cX5_keep 50 = .ok (.iload_n 1, 1) := by decide +kernel
theorem dX5_keep_51 : decode cX5_keep 51 = .ok (.iload 4, 2) := by decide +kernel
theorem dX5_keep_53 : decode cX5_keep 53 = .ok (.invokestatic 23, 3) := by decide +kernel
theorem dX5_keep_56 : decode cX5_keep 56 = .ok (.iload 5, 2) := by decide +kernel
theorem dX5_keep_58 : decode cX5_keep 58 = .ok (.iastore, 1) := by decide +kernel
theorem dX5_keep_59 : decode cX5_keep 59 = .ok (.iinc 4 1, 3) := by decide +kernel
theorem dX5_keep_62 : decode cX5_keep 62 = .ok (.goto (-59), 3) := by decide +kernel
theorem dX5_keep_65 : decode cX5_keep 65 = .ok (.return_, 1) := by decide +kernel
theorem dX5_speedSign_0 : decode cX5_speedSign 0 = .ok (.aload_n 0, 1) := by decide +kernel
theorem dX5_speedSign_1 : decode cX5_speedSign 1 = .ok (.getfield 11, 3) := by decide +kernel
theorem dX5_speedSign_4 : decode cX5_speedSign 4 = .ok (.iload_n 1, 1) := by decide +kernel
theorem dX5_speedSign_5 : decode cX5_speedSign 5 = .ok (.iload_n 2, 1) := by decide +kernel
theorem dX5_speedSign_6 : decode cX5_speedSign 6 = .ok (.invokestatic 23, 3) := by decide +kernel
theorem dX5_speedSign_9 : decode cX5_speedSign 9 = .ok (.iaload, 1) := by decide +kernel
theorem dX5_speedSign_10 : decode cX5_speedSign 10 = .ok (.bipush 8, 2) := by decide +kernel
theorem dX5_speedSign_12 : decode cX5_speedSign 12 = .ok (.ishr, 1) := by decide +kernel
theorem dX5_speedSign_13 : decode cX5_speedSign 13 = .ok (.ireturn, 1) := by decide +kernel
theorem dX5_laneSign_0 : decode cX5_laneSign 0 = .ok (.aload_n 0, 1) := by decide +kernel
theorem dX5_laneSign_1 : decode cX5_laneSign 1 = .ok (.getfield 11, 3) := by decide +kernel
theorem dX5_laneSign_4 : decode cX5_laneSign 4 = .ok (.iload_n 1, 1) := by decide +kernel
theorem dX5_laneSign_5 : decode cX5_laneSign 5 = .ok (.iload_n 2, 1) := by decide +kernel
theorem dX5_laneSign_6 : decode cX5_laneSign 6 = .ok (.invokestatic 23, 3) := by decide +kernel
theorem dX5_laneSign_9 : decode cX5_laneSign 9 = .ok (.iaload, 1) := by decide +kernel
theorem dX5_laneSign_10 : decode cX5_laneSign 10 = .ok (.iconst 2, 1) := by decide +kernel
theorem dX5_laneSign_11 : decode cX5_laneSign 11 = .ok (.iload_n 3, 1) := by decide +kernel
theorem dX5_laneSign_12 : decode cX5_laneSign 12 = .ok (.imul, 1) := by decide +kernel
theorem dX5_laneSign_13 : decode cX5_laneSign 13 = .ok (.ishr, 1) := by decide +kernel
theorem dX5_laneSign_14 : decode cX5_laneSign 14 = .ok (.iconst 3, 1) := by decide +kernel
theorem dX5_laneSign_15 : decode cX5_laneSign 15 = .ok (.iand, 1) := by decide +kernel
theorem dX5_laneSign_16 : decode cX5_laneSign 16 = .ok (.ireturn, 1) := by decide +kernel
theorem dX5_slotOf_0 : decode cX5_slotOf 0 = .ok (.iload_n 0, 1) := by decide +kernel
theorem dX5_slotOf_1 : decode cX5_slotOf 1 = .ok (.bipush 60, 2) := by decide +kernel
theorem dX5_slotOf_3 : decode cX5_slotOf 3 = .ok (.invokestatic 26, 3) := by decide +kernel
theorem dX5_slotOf_6 : decode cX5_slotOf 6 = .ok (.bipush 12, 2) := by decide +kernel
theorem dX5_slotOf_8 : decode cX5_slotOf 8 = .ok (.imul, 1) := by decide +kernel
theorem dX5_slotOf_9 : decode cX5_slotOf 9 = .ok (.iload_n 1, 1) := by decide +kernel
theorem dX5_slotOf_10 : decode cX5_slotOf 10 = .ok (.iadd, 1) := by decide +kernel
theorem dX5_slotOf_11 : decode cX5_slotOf 11 = .ok (.ireturn, 1) := by decide +kernel
theorem dX6_init_0 : decode cX6_init 0 = .ok (.aload_n 0, 1) := by decide +kernel
theorem dX6_init_1 : decode cX6_init 1 = .ok (.invokespecial 3, 3) := by decide +kernel
theorem dX6_init_4 : decode cX6_init 4 = .ok (.aload_n 0, 1) := by decide +kernel
theorem dX6_init_5 : decode cX6_init 5 = .ok (.bipush 12, 2) := by decide +kernel
theorem dX6_init_7 : decode cX6_init 7 = .ok (.newarray .boolean, 2) := by decide +kernel
theorem dX6_init_9 : decode cX6_init 9 = .ok (.putfield 9, 3) := by decide +kernel
theorem dX6_init_12 : decode cX6_init 12 = .ok (.aload_n 0, 1) := by decide +kernel
theorem dX6_init_13 : decode cX6_init 13 = .ok (.bipush 12, 2) := by decide +kernel
theorem dX6_init_15 : decode cX6_init 15 = .ok (.newarray .int, 2) := by decide +kernel
theorem dX6_init_17 : decode cX6_init 17 = .ok (.putfield 15, 3) := by decide +kernel
theorem dX6_init_20 : decode cX6_init 20 = .ok (.iconst 0, 1) := by decide +kernel
theorem dX6_init_21 : decode cX6_init 21 = .ok (.istore_n 1, 1) := by decide +kernel
theorem dX6_init_22 : decode cX6_init 22 = .ok (.iload_n 1, 1) := by decide +kernel
theorem dX6_init_23 : decode cX6_init 23 = .ok (.bipush 12, 2) := by decide +kernel
theorem dX6_init_25 : decode cX6_init 25 = .ok (.if_icmp .ge 18, 3) := by decide +kernel
theorem dX6_init_28 : decode cX6_init 28 = .ok (.aload_n 0, 1) := by decide +kernel
theorem dX6_init_29 : decode cX6_init 29 = .ok (.getfield 15, 3) := by decide +kernel
theorem dX6_init_32 : decode cX6_init 32 = .ok (.iload_n 1, 1) := by decide +kernel
theorem dX6_init_33 : decode cX6_init 33 = .ok (.sipush (-1000), 3) := by decide +kernel
theorem dX6_init_36 : decode cX6_init 36 = .ok (.iastore, 1) := by decide +kernel
theorem dX6_init_37 : decode cX6_init 37 = .ok (.iinc 1 1, 3) := by decide +kernel
theorem dX6_init_40 : decode cX6_init 40 = .ok (.goto (-18), 3) := by decide +kernel
theorem dX6_init_43 : decode cX6_init 43 = .ok (.return_, 1) := by decide +kernel
theorem dX6_shutAll_0 : decode cX6_shutAll 0 = .ok (.iconst 0, 1) := by decide +kernel
theorem dX6_shutAll_1 : decode cX6_shutAll 1 = .ok (.istore_n 1, 1) := by decide +kernel
theorem dX6_shutAll_2 : decode cX6_shutAll 2 = .ok (.iconst 0, 1) := by decide +kernel
theorem dX6_shutAll_3 : decode cX6_shutAll 3 = .ok (.istore_n 2, 1) := by decide +kernel
theorem dX6_shutAll_4 : decode cX6_shutAll 4 = .ok (.iload_n 2, 1) := by decide +kernel
theorem dX6_shutAll_5 : decode cX6_shutAll 5 = .ok (.bipush 12, 2) := by decide +kernel
theorem dX6_shutAll_7 : decode cX6_shutAll 7 = .ok (.if_icmp .ge 28, 3) := by decide +kernel
theorem dX6_shutAll_10 : decode cX6_shutAll 10 = .ok (.aload_n 0, 1) := by decide +kernel
theorem dX6_shutAll_11 : decode cX6_shutAll 11 = .ok (.getfield 9, 3) := by decide +kernel
theorem dX6_shutAll_14 : decode cX6_shutAll 14 = .ok (.iload_n 2, 1) := by decide +kernel
theorem dX6_shutAll_15 : decode cX6_shutAll 15 = .ok (.baload, 1) := by decide +kernel
theorem dX6_shutAll_16 : decode cX6_shutAll 16 = .ok (.ifCond .eq 13, 3) := by decide +kernel
theorem dX6_shutAll_19 : decode cX6_shutAll 19 = .ok (.aload_n 0, 1) := by decide +kernel
theorem dX6_shutAll_20 : decode cX6_shutAll 20 = .ok (.getfield 9, 3) := by decide +kernel
theorem dX6_shutAll_23 : decode cX6_shutAll 23 = .ok (.iload_n 2, 1) := by decide +kernel
theorem dX6_shutAll_24 : decode cX6_shutAll 24 = .ok (.iconst 0, 1) := by decide +kernel
theorem dX6_shutAll_25 : decode cX6_shutAll 25 = .ok (.bastore, 1) := by decide +kernel
theorem dX6_shutAll_26 : decode cX6_shutAll 26 = .ok (.iinc 1 1, 3) := by decide +kernel
theorem dX6_shutAll_29 : decode cX6_shutAll 29 = .ok (.iinc 2 1, 3) := by decide +kernel
theorem dX6_shutAll_32 : decode cX6_shutAll 32 = .ok (.goto (-28), 3) := by decide +kernel
theorem dX6_shutAll_35 : decode cX6_shutAll 35 = .ok (.iload_n 1, 1) := by decide +kernel
theorem dX6_shutAll_36 : decode cX6_shutAll 36 = .ok (.ireturn, 1) := by decide +kernel
theorem dX6_tellCrosses_0 : decode cX6_tellCrosses 0 = .ok (.iconst 0, 1) := by decide +kernel
theorem dX6_tellCrosses_1 : decode cX6_tellCrosses 1 = .ok (.istore_n 2, 1) := by decide +kernel
theorem dX6_tellCrosses_2 : decode cX6_tellCrosses 2 = .ok (.iload_n 2, 1) := by decide +kernel
theorem dX6_tellCrosses_3 : decode cX6_tellCrosses 3 = .ok (.bipush 12, 2) := by decide +kernel
theorem dX6_tellCrosses_5 : decode cX6_tellCrosses 5 = .ok (.if_icmp .ge 26, 3) := by decide +kernel
theorem dX6_tellCrosses_8 : decode cX6_tellCrosses 8 = .ok (.aload_n 0, 1) := by decide +kernel
theorem dX6_tellCrosses_9 : decode cX6_tellCrosses 9 = .ok (.getfield 9, 3) := by decide +kernel
theorem dX6_tellCrosses_12 : decode cX6_tellCrosses 12 = .ok (.iload_n 2, 1) := by decide +kernel
theorem dX6_tellCrosses_13 : decode cX6_tellCrosses 13 = .ok (.baload, 1) := by decide +kernel
theorem dX6_tellCrosses_14 : decode cX6_tellCrosses 14 = .ok (.ifCond .ne 11, 3) := by decide +kernel
theorem dX6_tellCrosses_17 : decode cX6_tellCrosses 17 = .ok (.aload_n 1, 1) := by decide +kernel
theorem dX6_tellCrosses_18 : decode cX6_tellCrosses 18 = .ok (.iload_n 2, 1) := by decide +kernel
theorem dX6_tellCrosses_19 : decode cX6_tellCrosses 19 = .ok (.iconst 0, 1) := by decide +kernel
theorem dX6_tellCrosses_20 : decode cX6_tellCrosses 20 = .ok (.invokestatic 23, 3) := by decide +kernel
theorem dX6_tellCrosses_23 : decode cX6_tellCrosses 23 = .ok (.iconst 2, 1) := by decide +kernel
theorem dX6_tellCrosses_24 : decode cX6_tellCrosses 24 = .ok (.iastore, 1) := by decide +kernel
theorem dX6_tellCrosses_25 : decode cX6_tellCrosses 25 = .ok (.iinc 2 1, 3) := by decide +kernel
theorem dX6_tellCrosses_28 : decode cX6_tellCrosses 28 = .ok (.goto (-26), 3) := by decide +kernel
theorem dX6_tellCrosses_31 : decode cX6_tellCrosses 31 = .ok (.return_, 1) := by decide +kernel
theorem dX7_init_0 : decode cX7_init 0 = .ok (.aload_n 0, 1) := by decide +kernel
theorem dX7_init_1 : decode cX7_init 1 = .ok (.invokespecial 3, 3) := by decide +kernel
theorem dX7_init_4 : decode cX7_init 4 = .ok (.aload_n 0, 1) := by decide +kernel
theorem dX7_init_5 : decode cX7_init 5 = .ok (.bipush 12, 2) := by decide +kernel
theorem dX7_init_7 : decode cX7_init 7 = .ok (.newarray .int, 2) := by decide +kernel
theorem dX7_init_9 : decode cX7_init 9 = .ok (.putfield 9, 3) := by decide +kernel
theorem dX7_init_12 : decode cX7_init 12 = .ok (.aload_n 0, 1) := by decide +kernel
theorem dX7_init_13 : decode cX7_init 13 = .ok (.bipush 12, 2) := by decide +kernel
theorem dX7_init_15 : decode cX7_init 15 = .ok (.newarray .int, 2) := by decide +kernel
theorem dX7_init_17 : decode cX7_init 17 = .ok (.putfield 15, 3) := by decide +kernel
theorem dX7_init_20 : decode cX7_init 20 = .ok (.aload_n 0, 1) := by decide +kernel
theorem dX7_init_21 : decode cX7_init 21 = .ok (.bipush 12, 2) := by decide +kernel
theorem dX7_init_23 : decode cX7_init 23 = .ok (.newarray .int, 2) := by decide +kernel
theorem dX7_init_25 : decode cX7_init 25 = .ok (.putfield 18, 3) := by decide +kernel
theorem dX7_init_28 : decode cX7_init 28 = .ok (.aload_n 0, 1) := by decide +kernel
theorem dX7_init_29 : decode cX7_init 29 = .ok (.iconst 0, 1) := by decide +kernel
theorem dX7_init_30 : decode cX7_init 30 = .ok (.putfield 21, 3) := by decide +kernel
theorem dX7_init_33 : decode cX7_init 33 = .ok (.iconst 0, 1) := by decide +kernel
theorem dX7_init_34 : decode cX7_init 34 = .ok (.istore_n 1, 1) := by decide +kernel
theorem dX7_init_35 : decode cX7_init 35 = .ok (.iload_n 1, 1) := by decide +kernel
theorem dX7_init_36 : decode cX7_init 36 = .ok (.bipush 12, 2) := by decide +kernel
theorem dX7_init_38 : decode cX7_init 38 = .ok (.if_icmp .ge 33, 3) := by decide +kernel
theorem dX7_init_41 : decode cX7_init 41 = .ok (.aload_n 0, 1) := by decide +kernel
theorem dX7_init_42 : decode cX7_init 42 = .ok (.getfield 9, 3) := by decide +kernel
theorem dX7_init_45 : decode cX7_init 45 = .ok (.iload_n 1, 1) := by decide +kernel
theorem dX7_init_46 : decode cX7_init 46 = .ok (.iconst (-1), 1) := by decide +kernel
theorem dX7_init_47 : decode cX7_init 47 = .ok (.iastore, 1) := by decide +kernel
theorem dX7_init_48 : decode cX7_init 48 = .ok (.aload_n 0, 1) := by decide +kernel
theorem dX7_init_49 : decode cX7_init 49 = .ok (.getfield 15, 3) := by decide +kernel
theorem dX7_init_52 : decode cX7_init 52 = .ok (.iload_n 1, 1) := by decide +kernel
theorem dX7_init_53 : decode cX7_init 53 = .ok (.bipush 120, 2) := by decide +kernel
theorem dX7_init_55 : decode cX7_init 55 = .ok (.iastore, 1) := by decide +kernel
theorem dX7_init_56 : decode cX7_init 56 = .ok (.aload_n 0, 1) := by decide +kernel
theorem dX7_init_57 : decode cX7_init 57 = .ok (.getfield 18, 3) := by decide +kernel
theorem dX7_init_60 : decode cX7_init 60 = .ok (.iload_n 1, 1) := by decide +kernel
theorem dX7_init_61 : decode cX7_init 61 = .ok (.sipush (-1000), 3) := by decide +kernel
theorem dX7_init_64 : decode cX7_init 64 = .ok (.iastore, 1) := by decide +kernel
theorem dX7_init_65 : decode cX7_init 65 = .ok (.iinc 1 1, 3) := by decide +kernel
theorem dX7_init_68 : decode cX7_init 68 = .ok (.goto (-33), 3) := by decide +kernel
theorem dX7_init_71 : decode cX7_init 71 = .ok (.return_, 1) := by decide +kernel
theorem dX7_setAnew_0 : decode cX7_setAnew 0 = .ok (.bipush 11, 2) := by decide +kernel
theorem dX7_setAnew_2 : decode cX7_setAnew 2 = .ok (.istore 4, 2) := by decide +kernel
theorem dX7_setAnew_4 : decode cX7_setAnew 4 = .ok (.iload 4, 2) := by decide +kernel
theorem dX7_setAnew_6 : decode cX7_setAnew 6 = .ok (.ifCond .lt 107, 3) := by decide +kernel
theorem dX7_setAnew_9 : decode cX7_setAnew 9 = .ok (.aload_n 0, 1) := by decide +kernel
theorem dX7_setAnew_10 : decode cX7_setAnew 10 = .ok (.iload 4, 2) := by decide +kernel
theorem dX7_setAnew_12 : decode cX7_setAnew 12 = .ok (.aload_n 2, 1) := by decide +kernel
theorem dX7_setAnew_13 : decode cX7_setAnew 13 = .ok (.iload 4, 2) := by decide +kernel
theorem dX7_setAnew_15 : decode cX7_setAnew 15 = .ok (.aload_n 3, 1) := by decide +kernel
theorem dX7_setAnew_16 : decode cX7_setAnew 16 = .ok (.invokevirtual 25, 3) := by decide +kernel
theorem dX7_setAnew_19 : decode cX7_setAnew 19 = .ok (.invokevirtual 31, 3) := by decide +kernel
theorem dX7_setAnew_22 : decode cX7_setAnew 22 = .ok (.istore 5, 2) := by decide +kernel
theorem dX7_setAnew_24 : decode cX7_setAnew 24 = .ok (.aload_n 0, 1) := by decide +kernel
theorem dX7_setAnew_25 : decode cX7_setAnew 25 = .ok (.iload 5, 2) := by decide +kernel
theorem dX7_setAnew_27 : decode cX7_setAnew 27 = .ok (.iload 4, 2) := by decide +kernel
theorem dX7_setAnew_29 : decode cX7_setAnew 29 = .ok (.iload_n 1, 1) := by decide +kernel
theorem dX7_setAnew_30 : decode cX7_setAnew 30 = .ok (.invokevirtual 35, 3) := by decide +kernel
theorem dX7_setAnew_33 : decode cX7_setAnew 33 = .ok (.ifCond .eq 13, 3) := by decide +kernel
theorem dX7_setAnew_36 : decode cX7_setAnew 36 = .ok (.aload_n 0, 1) := by decide +kernel
theorem dX7_setAnew_37 : decode cX7_setAnew 37 = .ok (.getfield 15, 3) := by decide +kernel
theorem dX7_setAnew_40 : decode cX7_setAnew 40 = .ok (.iload 4, 2) := by decide +kernel
theorem dX7_setAnew_42 : decode cX7_setAnew 42 = .ok (.iaload, 1) := by decide +kernel
theorem dX7_setAnew_43 : decode cX7_setAnew 43 = .ok (.goto 5, 3) := by decide +kernel
theorem dX7_setAnew_46 : decode cX7_setAnew 46 = .ok (.iload 5, 2) := by decide +kernel
theorem dX7_setAnew_48 : decode cX7_setAnew 48 = .ok (.istore 6, 2) := by decide +kernel
theorem dX7_setAnew_50 : decode cX7_setAnew 50 = .ok (.iload 4, 2) := by decide +kernel
theorem dX7_setAnew_52 : decode cX7_setAnew 52 = .ok (.iconst 1, 1) := by decide +kernel
theorem dX7_setAnew_53 : decode cX7_setAnew 53 = .ok (.iadd, 1) := by decide +kernel
theorem dX7_setAnew_54 : decode cX7_setAnew 54 = .ok (.bipush 12, 2) := by decide +kernel
theorem dX7_setAnew_56 : decode cX7_setAnew 56 = .ok (.if_icmp .ge 22, 3) := by decide +kernel
theorem dX7_setAnew_59 : decode cX7_setAnew 59 = .ok (.iload 6, 2) := by decide +kernel
theorem dX7_setAnew_61 : decode cX7_setAnew 61 = .ok (.aload_n 0, 1) := by decide +kernel
theorem dX7_setAnew_62 : decode cX7_setAnew 62 = .ok (.getfield 15, 3) := by decide +kernel
theorem dX7_setAnew_65 : decode cX7_setAnew 65 = .ok (.iload 4, 2) := by decide +kernel
theorem dX7_setAnew_67 : decode cX7_setAnew 67 = .ok (.iconst 1, 1) := by decide +kernel
theorem dX7_setAnew_68 : decode cX7_setAnew 68 = .ok (.iadd, 1) := by decide +kernel
theorem dX7_setAnew_69 : decode cX7_setAnew 69 = .ok (.iaload, 1) := by decide +kernel
theorem dX7_setAnew_70 : decode cX7_setAnew 70 = .ok (.bipush 20, 2) := by decide +kernel
theorem dX7_setAnew_72 : decode cX7_setAnew 72 = .ok (.iadd, 1) := by decide +kernel
theorem dX7_setAnew_73 : decode cX7_setAnew 73 = .ok (.invokestatic 39, 3) := by decide +kernel
theorem dX7_setAnew_76 : decode cX7_setAnew 76 = .ok (.istore 6, 2) := by decide +kernel
theorem dX7_setAnew_78 : decode cX7_setAnew 78 = .ok (.iload 6, 2) := by decide +kernel
theorem dX7_setAnew_80 : decode cX7_setAnew 80 = .ok (.aload_n 0, 1) := by decide +kernel
theorem dX7_setAnew_81 : decode cX7_setAnew 81 = .ok (.getfield 15, 3) := by decide +kernel
theorem dX7_setAnew_84 : decode cX7_setAnew 84 = .ok (.iload 4, 2) := by decide +kernel
theorem dX7_setAnew_86 : decode cX7_setAnew 86 = .ok (.iaload, 1) := by decide +kernel
theorem dX7_setAnew_87 : decode cX7_setAnew 87 = .ok (.if_icmp .ge 11, 3) := by decide +kernel
theorem dX7_setAnew_90 : decode cX7_setAnew 90 = .ok (.aload_n 0, 1) := by decide +kernel
theorem dX7_setAnew_91 : decode cX7_setAnew 91 = .ok (.getfield 18, 3) := by decide +kernel
theorem dX7_setAnew_94 : decode cX7_setAnew 94 = .ok (.iload 4, 2) := by decide +kernel
theorem dX7_setAnew_96 : decode cX7_setAnew 96 = .ok (.iload_n 1, 1) := by decide +kernel
theorem dX7_setAnew_97 : decode cX7_setAnew 97 = .ok (.iastore, 1) := by decide +kernel
theorem dX7_setAnew_98 : decode cX7_setAnew 98 = .ok (.aload_n 0, 1) := by decide +kernel
theorem dX7_setAnew_99 : decode cX7_setAnew 99 = .ok (.getfield 15, 3) := by decide +kernel
theorem dX7_setAnew_102 : decode cX7_setAnew 102 = .ok (.iload 4, 2) := by decide +kernel
theorem dX7_setAnew_104 : decode cX7_setAnew 104 = .ok (.iload 6, 2) := by decide +kernel
theorem dX7_setAnew_106 : decode cX7_setAnew 106 = .ok (.iastore, 1) := by decide +kernel
theorem dX7_setAnew_107 : decode cX7_setAnew 107 = .ok (.iinc 4 (-1), 3) := by decide +kernel
theorem dX7_setAnew_110 : decode cX7_setAnew 110 = .ok (.goto (-106), 3) := by decide +kernel
theorem dX7_setAnew_113 : decode cX7_setAnew 113 = .ok (.return_, 1) := by decide +kernel
theorem dX7_areLawful_0 : decode cX7_areLawful 0 = .ok (.iconst 0, 1) := by decide +kernel
theorem dX7_areLawful_1 : decode cX7_areLawful 1 = .ok (.istore_n 1, 1) := by decide +kernel
theorem dX7_areLawful_2 : decode cX7_areLawful 2 = .ok (.iload_n 1, 1) := by decide +kernel
theorem dX7_areLawful_3 : decode cX7_areLawful 3 = .ok (.iconst 1, 1) := by decide +kernel
theorem dX7_areLawful_4 : decode cX7_areLawful 4 = .ok (.iadd, 1) := by decide +kernel
theorem dX7_areLawful_5 : decode cX7_areLawful 5 = .ok (.bipush 12, 2) := by decide +kernel
theorem dX7_areLawful_7 : decode cX7_areLawful 7 = .ok (.if_icmp .ge 31, 3) := by decide +kernel
theorem dX7_areLawful_10 : decode cX7_areLawful 10 = .ok (.aload_n 0, 1) := by decide +kernel
theorem dX7_areLawful_11 : decode cX7_areLawful 11 = .ok (.getfield 15, 3) := by decide +kernel
theorem dX7_areLawful_14 : decode cX7_areLawful 14 = .ok (.iload_n 1, 1) := by decide +kernel
theorem dX7_areLawful_15 : decode cX7_areLawful 15 = .ok (.iaload, 1) := by decide +kernel
theorem dX7_areLawful_16 : decode cX7_areLawful 16 = .ok (.aload_n 0, 1) := by decide +kernel
theorem dX7_areLawful_17 : decode cX7_areLawful 17 = .ok (.getfield 15, 3) := by decide +kernel
theorem dX7_areLawful_20 : decode cX7_areLawful 20 = .ok (.iload_n 1, 1) := by decide +kernel
theorem dX7_areLawful_21 : decode cX7_areLawful 21 = .ok (.iconst 1, 1) := by decide +kernel
theorem dX7_areLawful_22 : decode cX7_areLawful 22 = .ok (.iadd, 1) := by decide +kernel
theorem dX7_areLawful_23 : decode cX7_areLawful 23 = .ok (.iaload, 1) := by decide +kernel
theorem dX7_areLawful_24 : decode cX7_areLawful 24 = .ok (.bipush 20, 2) := by decide +kernel
theorem dX7_areLawful_26 : decode cX7_areLawful 26 = .ok (.iadd, 1) := by decide +kernel
theorem dX7_areLawful_27 : decode cX7_areLawful 27 = .ok (.if_icmp .le 5, 3) := by decide +kernel
theorem dX7_areLawful_30 : decode cX7_areLawful 30 = .ok (.iconst 0, 1) := by decide +kernel
theorem dX7_areLawful_31 : decode cX7_areLawful 31 = .ok (.ireturn, 1) := by decide +kernel
theorem dX7_areLawful_32 : decode cX7_areLawful 32 = .ok (.iinc 1 1, 3) := by decide +kernel
theorem dX7_areLawful_35 : decode cX7_areLawful 35 = .ok (.goto (-33), 3) := by decide +kernel
theorem dX7_areLawful_38 : decode cX7_areLawful 38 = .ok (.iconst 1, 1) := by decide +kernel
theorem dX7_areLawful_39 : decode cX7_areLawful 39 = .ok (.ireturn, 1) := by decide +kernel
theorem dX7_wantAt_0 : decode cX7_wantAt 0 = .ok (.aload_n 0, 1) := by decide +kernel
theorem dX7_wantAt_1 : decode cX7_wantAt 1 = .ok (.getfield 9, 3) := by decide +kernel
theorem dX7_wantAt_4 : decode cX7_wantAt 4 = .ok (.iload_n 1, 1) := by decide +kernel
theorem dX7_wantAt_5 : decode cX7_wantAt 5 = .ok (.iaload, 1) := by decide +kernel
theorem dX7_wantAt_6 : decode cX7_wantAt 6 = .ok (.iconst (-1), 1) := by decide +kernel
theorem dX7_wantAt_7 : decode cX7_wantAt 7 = .ok (.if_icmp .eq 10, 3) := by decide +kernel
theorem dX7_wantAt_10 : decode cX7_wantAt 10 = .ok (.aload_n 0, 1) := by decide +kernel
theorem dX7_wantAt_11 : decode cX7_wantAt 11 = .ok (.getfield 9, 3) := by decide +kernel
theorem dX7_wantAt_14 : decode cX7_wantAt 14 = .ok (.iload_n 1, 1) := by decide +kernel
theorem dX7_wantAt_15 : decode cX7_wantAt 15 = .ok (.iaload, 1) := by decide +kernel
theorem dX7_wantAt_16 : decode cX7_wantAt 16 = .ok (.ireturn, 1) := by decide +kernel
theorem dX7_wantAt_17 : decode cX7_wantAt 17 = .ok (.aload_n 0, 1) := by decide +kernel
theorem dX7_wantAt_18 : decode cX7_wantAt 18 = .ok (.getfield 21, 3) := by decide +kernel
theorem dX7_wantAt_21 : decode cX7_wantAt 21 = .ok (.iconst 0, 1) := by decide +kernel
theorem dX7_wantAt_22 : decode cX7_wantAt 22 = .ok (.iconst 3, 1) := by decide +kernel
theorem dX7_wantAt_23 : decode cX7_wantAt 23 = .ok (.invokestatic 44, 3) := by decide +kernel
theorem dX7_wantAt_26 : decode cX7_wantAt 26 = .ok (.ifCond .eq 14, 3) := by decide +kernel
theorem dX7_wantAt_29 : decode cX7_wantAt 29 = .ok (.getstatic 47, 3) := by decide +kernel
theorem dX7_wantAt_32 : decode cX7_wantAt 32 = .ok (.aload_n 0, 1) := by decide +kernel
theorem dX7_wantAt_33 : decode cX7_wantAt 33 = .ok (.getfield 21, 3) := by decide +kernel
theorem dX7_wantAt_36 : decode cX7_wantAt 36 = .ok (.iaload, 1) := by decide +kernel
theorem dX7_wantAt_37 : decode cX7_wantAt 37 = .ok (.goto 5, 3) := by decide +kernel
theorem dX7_wantAt_40 : decode cX7_wantAt 40 = .ok (.bipush 120, 2) := by decide +kernel
theorem dX7_wantAt_42 : decode cX7_wantAt 42 = .ok (.istore_n 3, 1) := by decide +kernel
theorem dX7_wantAt_43 : decode cX7_wantAt 43 = .ok (.iload_n 2, 1) := by decide +kernel
theorem dX7_wantAt_44 : decode cX7_wantAt 44 = .ok (.invokestatic 50, 3) := by decide +kernel
theorem dX7_wantAt_47 : decode cX7_wantAt 47 = .ok (.iload_n 3, 1) := by decide +kernel
theorem dX7_wantAt_48 : decode cX7_wantAt 48 = .ok (.invokestatic 39, 3) := by decide +kernel
theorem dX7_wantAt_51 : decode cX7_wantAt 51 = .ok (.ireturn, 1) := by decide +kernel
theorem dX7_wantBy_0 : decode cX7_wantBy 0 = .ok (.iload_n 0, 1) := by decide +kernel
theorem dX7_wantBy_1 : decode cX7_wantBy 1 = .ok (.iconst (-1), 1) := by decide +kernel
theorem dX7_wantBy_2 : decode cX7_wantBy 2 = .ok (.if_icmp .ne 6, 3) := by decide +kernel
theorem dX7_wantBy_5 : decode cX7_wantBy 5 = .ok (.bipush 60, 2) := by decide +kernel
theorem dX7_wantBy_7 : decode cX7_wantBy 7 = .ok (.ireturn, 1) := by decide +kernel
theorem dX7_wantBy_8 : decode cX7_wantBy 8 = .ok (.iload_n 0, 1) := by decide +kernel
theorem dX7_wantBy_9 : decode cX7_wantBy 9 = .ok (.bipush 40, 2) := by decide +kernel
theorem dX7_wantBy_11 : decode cX7_wantBy 11 = .ok (.if_icmp .ge 6, 3) := by decide +kernel
theorem dX7_wantBy_14 : decode cX7_wantBy 14 = .ok (.bipush 40, 2) := by decide +kernel
theorem dX7_wantBy_16 : decode cX7_wantBy 16 = .ok (.ireturn, 1) := by decide +kernel
theorem dX7_wantBy_17 : decode cX7_wantBy 17 = .ok (.iload_n 0, 1) := by decide +kernel
theorem dX7_wantBy_18 : decode cX7_wantBy 18 = .ok (.bipush 60, 2) := by decide +kernel
theorem dX7_wantBy_20 : decode cX7_wantBy 20 = .ok (.if_icmp .ge 6, 3) := by decide +kernel
theorem dX7_wantBy_23 : decode cX7_wantBy 23 = .ok (.bipush 60, 2) := by decide +kernel
theorem dX7_wantBy_25 : decode cX7_wantBy 25 = .ok (.ireturn, 1) := by decide +kernel
theorem dX7_wantBy_26 : decode cX7_wantBy 26 = .ok (.iload_n 0, 1) := by decide +kernel
theorem dX7_wantBy_27 : decode cX7_wantBy 27 = .ok (.bipush 80, 2) := by decide +kernel
theorem dX7_wantBy_29 : decode cX7_wantBy 29 = .ok (.if_icmp .ge 8, 3) := by decide +kernel
theorem dX7_wantBy_32 : decode cX7_wantBy 32 = .ok (.bipush 80, 2) := by decide +kernel
theorem dX7_wantBy_34 : decode cX7_wantBy 34 = .ok (.goto 5, 3) := by decide +kernel
theorem dX7_wantBy_37 : decode cX7_wantBy 37 = .ok (.bipush 120, 2) := by decide +kernel
theorem dX7_wantBy_39 : decode cX7_wantBy 39 = .ok (.ireturn, 1) := by decide +kernel
theorem dX7_staysBelow_0 : decode cX7_staysBelow 0 = .ok (.aload_n 0, 1) := by decide +kernel
theorem dX7_staysBelow_1 : decode cX7_staysBelow 1 = .ok (.getfield 9, 3) := by decide +kernel
theorem dX7_staysBelow_4 : decode cX7_staysBelow 4 = .ok (.iload_n 2, 1) := by decide +kernel
theorem dX7_staysBelow_5 : decode cX7_staysBelow 5 = .ok (.iaload, 1) := by decide +kernel
theorem dX7_staysBelow_6 : decode cX7_staysBelow 6 = .ok (.iconst (-1), 1) := by decide +kernel
theorem dX7_staysBelow_7 : decode cX7_staysBelow 7 = .ok (.if_icmp .ne 29, 3) := by decide +kernel
theorem dX7_staysBelow_10 : decode cX7_staysBelow 10 = .ok (.iload_n 1, 1) := by decide +kernel
theorem dX7_staysBelow_11 : decode cX7_staysBelow 11 = .ok (.aload_n 0, 1) := by decide +kernel
theorem dX7_staysBelow_12 : decode cX7_staysBelow 12 = .ok (.getfield 15, 3) := by decide +kernel
theorem dX7_staysBelow_15 : decode cX7_staysBelow 15 = .ok (.iload_n 2, 1) := by decide +kernel
theorem dX7_staysBelow_16 : decode cX7_staysBelow 16 = .ok (.iaload, 1) := by decide +kernel
theorem dX7_staysBelow_17 : decode cX7_staysBelow 17 = .ok (.if_icmp .le 19, 3) := by decide +kernel
theorem dX7_staysBelow_20 : decode cX7_staysBelow 20 = .ok (.iload_n 3, 1) := by decide +kernel
theorem dX7_staysBelow_21 : decode cX7_staysBelow 21 = .ok (.aload_n 0, 1) := by decide +kernel
theorem dX7_staysBelow_22 : decode cX7_staysBelow 22 = .ok (.getfield 18, 3) := by decide +kernel
theorem dX7_staysBelow_25 : decode cX7_staysBelow 25 = .ok (.iload_n 2, 1) := by decide +kernel
theorem dX7_staysBelow_26 : decode cX7_staysBelow 26 = .ok (.iaload, 1) := by decide +kernel
theorem dX7_staysBelow_27 : decode cX7_staysBelow 27 = .ok (.isub, 1) := by decide +kernel
theorem dX7_staysBelow_28 : decode cX7_staysBelow 28 = .ok (.iconst 3, 1) := by decide +kernel
theorem dX7_staysBelow_29 : decode cX7_staysBelow 29 = .ok (.if_icmp .ge 7, 3) := by decide +kernel
theorem dX7_staysBelow_32 : decode cX7_staysBelow 32 = .ok (.iconst 1, 1) := by decide +kernel
theorem dX7_staysBelow_33 : decode cX7_staysBelow 33 = .ok (.goto 4, 3) := by decide +kernel
theorem dX7_staysBelow_36 : decode cX7_staysBelow 36 = .ok (.iconst 0, 1) := by decide +kernel
theorem dX7_staysBelow_37 : decode cX7_staysBelow 37 = .ok (.ireturn, 1) := by decide +kernel
theorem dX8_init_0 : decode cX8_init 0 = .ok (.aload_n 0, 1) := by decide +kernel
theorem dX8_init_1 : decode cX8_init 1 = .ok (.invokespecial 3, 3) := by decide +kernel
theorem dX8_init_4 : decode cX8_init 4 = .ok (.aload_n 0, 1) := by decide +kernel
theorem dX8_init_5 : decode cX8_init 5 = .ok (.bipush 48, 2) := by decide +kernel
theorem dX8_init_7 : decode cX8_init 7 = .ok (.newarray .int, 2) := by decide +kernel
theorem dX8_init_9 : decode cX8_init 9 = .ok (.putfield 9, 3) := by decide +kernel
theorem dX8_init_12 : decode cX8_init 12 = .ok (.aload_n 0, 1) := by decide +kernel
theorem dX8_init_13 : decode cX8_init 13 = .ok (.bipush 48, 2) := by decide +kernel
theorem dX8_init_15 : decode cX8_init 15 = .ok (.newarray .boolean, 2) := by decide +kernel
end
section
theorem dX8_init_17 : decode cX8_init 17 = .ok (.putfield 15, 3) := by decide +kernel
theorem dX8_init_20 : decode cX8_init 20 = .ok (.aload_n 0, 1) := by decide +kernel
theorem dX8_init_21 : decode cX8_init 21 = .ok (.bipush 12, 2) := by decide +kernel
theorem dX8_init_23 : decode cX8_init 23 = .ok (.newarray .boolean, 2) := by decide +kernel
theorem dX8_init_25 : decode cX8_init 25 = .ok (.putfield 19, 3) := by decide +kernel
theorem dX8_init_28 : decode cX8_init 28 = .ok (.aload_n 0, 1) := by decide +kernel
theorem dX8_init_29 : decode cX8_init 29 = .ok (.iconst 0, 1) := by decide +kernel
theorem dX8_init_30 : decode cX8_init 30 = .ok (.putfield 22, 3) := by decide +kernel
theorem dX8_init_33 : decode cX8_init 33 = .ok (.aload_n 0, 1) := by decide +kernel
theorem dX8_init_34 : decode cX8_init 34 = .ok (.iconst 0, 1) := by decide +kernel
theorem dX8_init_35 : decode cX8_init 35 = .ok (.putfield 26, 3) := by decide +kernel
theorem dX8_init_38 : decode cX8_init 38 = .ok (.aload_n 0, 1) := by decide +kernel
theorem dX8_init_39 : decode cX8_init 39 = .ok (.iconst 0, 1) := by decide +kernel
theorem dX8_init_40 : decode cX8_init 40 = .ok (.putfield 29, 3) := by decide +kernel
theorem dX8_init_43 : decode cX8_init 43 = .ok (.aload_n 0, 1) := by decide +kernel
theorem dX8_init_44 : decode cX8_init 44 = .ok (.iconst 0, 1) := by decide +kernel
theorem dX8_init_45 : decode cX8_init 45 = .ok (.putfield 32, 3) := by decide +kernel
theorem dX8_init_48 : decode cX8_init 48 = .ok (.return_, 1) := by decide +kernel
theorem dX8_mostIn_0 : decode cX8_mostIn 0 = .ok (.iload_n 1, 1) := by decide +kernel
theorem dX8_mostIn_1 : decode cX8_mostIn 1 = .ok (.ifCond .lt 9, 3) := by decide +kernel
theorem dX8_mostIn_4 : decode cX8_mostIn 4 = .ok (.iload_n 1, 1) := by decide +kernel
theorem dX8_mostIn_5 : decode cX8_mostIn 5 = .ok (.bipush 12, 2) := by decide +kernel
theorem dX8_mostIn_7 : decode cX8_mostIn 7 = .ok (.if_icmp .lt 5, 3) := by decide +kernel
theorem dX8_mostIn_10 : decode cX8_mostIn 10 = .ok (.iconst 0, 1) := by decide +kernel
theorem dX8_mostIn_11 : decode cX8_mostIn 11 = .ok (.ireturn, 1) := by decide +kernel
theorem dX8_mostIn_12 : decode cX8_mostIn 12 = .ok (.iconst 0, 1) := by decide +kernel
theorem dX8_mostIn_13 : decode cX8_mostIn 13 = .ok (.istore_n 2, 1) := by decide +kernel
theorem dX8_mostIn_14 : decode cX8_mostIn 14 = .ok (.iconst 0, 1) := by decide +kernel
theorem dX8_mostIn_15 : decode cX8_mostIn 15 = .ok (.istore_n 3, 1) := by decide +kernel
theorem dX8_mostIn_16 : decode cX8_mostIn 16 = .ok (.iload_n 3, 1) := by decide +kernel
theorem dX8_mostIn_17 : decode cX8_mostIn 17 = .ok (.iconst 4, 1) := by decide +kernel
theorem dX8_mostIn_18 : decode cX8_mostIn 18 = .ok (.if_icmp .ge 34, 3) := by decide +kernel
theorem dX8_mostIn_21 : decode cX8_mostIn 21 = .ok (.aload_n 0, 1) := by decide +kernel
theorem dX8_mostIn_22 : decode cX8_mostIn 22 = .ok (.getfield 9, 3) := by decide +kernel
theorem dX8_mostIn_25 : decode cX8_mostIn 25 = .ok (.iload_n 1, 1) := by decide +kernel
theorem dX8_mostIn_26 : decode cX8_mostIn 26 = .ok (.iconst 4, 1) := by decide +kernel
theorem dX8_mostIn_27 : decode cX8_mostIn 27 = .ok (.imul, 1) := by decide +kernel
theorem dX8_mostIn_28 : decode cX8_mostIn 28 = .ok (.iload_n 3, 1) := by decide +kernel
theorem dX8_mostIn_29 : decode cX8_mostIn 29 = .ok (.iadd, 1) := by decide +kernel
theorem dX8_mostIn_30 : decode cX8_mostIn 30 = .ok (.iaload, 1) := by decide +kernel
theorem dX8_mostIn_31 : decode cX8_mostIn 31 = .ok (.istore 4, 2) := by decide +kernel
theorem dX8_mostIn_33 : decode cX8_mostIn 33 = .ok (.iload 4, 2) := by decide +kernel
theorem dX8_mostIn_35 : decode cX8_mostIn 35 = .ok (.iload_n 2, 1) := by decide +kernel
theorem dX8_mostIn_36 : decode cX8_mostIn 36 = .ok (.if_icmp .le 8, 3) := by decide +kernel
theorem dX8_mostIn_39 : decode cX8_mostIn 39 = .ok (.iload 4, 2) := by decide +kernel
theorem dX8_mostIn_41 : decode cX8_mostIn 41 = .ok (.goto 4, 3) := by decide +kernel
theorem dX8_mostIn_44 : decode cX8_mostIn 44 = .ok (.iload_n 2, 1) := by decide +kernel
theorem dX8_mostIn_45 : decode cX8_mostIn 45 = .ok (.istore_n 2, 1) := by decide +kernel
theorem dX8_mostIn_46 : decode cX8_mostIn 46 = .ok (.iinc 3 1, 3) := by decide +kernel
theorem dX8_mostIn_49 : decode cX8_mostIn 49 = .ok (.goto (-33), 3) := by decide +kernel
theorem dX8_mostIn_52 : decode cX8_mostIn 52 = .ok (.iload_n 2, 1) := by decide +kernel
theorem dX8_mostIn_53 : decode cX8_mostIn 53 = .ok (.ireturn, 1) := by decide +kernel
theorem dX8_speedAt_0 : decode cX8_speedAt 0 = .ok (.bipush 120, 2) := by decide +kernel
theorem dX8_speedAt_2 : decode cX8_speedAt 2 = .ok (.iconst 5, 1) := by decide +kernel
theorem dX8_speedAt_3 : decode cX8_speedAt 3 = .ok (.aload_n 0, 1) := by decide +kernel
theorem dX8_speedAt_4 : decode cX8_speedAt 4 = .ok (.iload_n 1, 1) := by decide +kernel
theorem dX8_speedAt_5 : decode cX8_speedAt 5 = .ok (.invokevirtual 35, 3) := by decide +kernel
theorem dX8_speedAt_8 : decode cX8_speedAt 8 = .ok (.imul, 1) := by decide +kernel
theorem dX8_speedAt_9 : decode cX8_speedAt 9 = .ok (.isub, 1) := by decide +kernel
theorem dX8_speedAt_10 : decode cX8_speedAt 10 = .ok (.ireturn, 1) := by decide +kernel
theorem dX8_countOnRoad_0 : decode cX8_countOnRoad 0 = .ok (.iconst 0, 1) := by decide +kernel
theorem dX8_countOnRoad_1 : decode cX8_countOnRoad 1 = .ok (.istore_n 1, 1) := by decide +kernel
theorem dX8_countOnRoad_2 : decode cX8_countOnRoad 2 = .ok (.iconst 0, 1) := by decide +kernel
theorem dX8_countOnRoad_3 : decode cX8_countOnRoad 3 = .ok (.istore_n 2, 1) := by decide +kernel
theorem dX8_countOnRoad_4 : decode cX8_countOnRoad 4 = .ok (.iload_n 2, 1) := by decide +kernel
theorem dX8_countOnRoad_5 : decode cX8_countOnRoad 5 = .ok (.bipush 48, 2) := by decide +kernel
theorem dX8_countOnRoad_7 : decode cX8_countOnRoad 7 = .ok (.if_icmp .ge 18, 3) := by decide +kernel
theorem dX8_countOnRoad_10 : decode cX8_countOnRoad 10 = .ok (.iload_n 1, 1) := by decide +kernel
theorem dX8_countOnRoad_11 : decode cX8_countOnRoad 11 = .ok (.aload_n 0, 1) := by decide +kernel
theorem dX8_countOnRoad_12 : decode cX8_countOnRoad 12 = .ok (.getfield 9, 3) := by decide +kernel
theorem dX8_countOnRoad_15 : decode cX8_countOnRoad 15 = .ok (.iload_n 2, 1) := by decide +kernel
theorem dX8_countOnRoad_16 : decode cX8_countOnRoad 16 = .ok (.iaload, 1) := by decide +kernel
theorem dX8_countOnRoad_17 : decode cX8_countOnRoad 17 = .ok (.iadd, 1) := by decide +kernel
theorem dX8_countOnRoad_18 : decode cX8_countOnRoad 18 = .ok (.istore_n 1, 1) := by decide +kernel
theorem dX8_countOnRoad_19 : decode cX8_countOnRoad 19 = .ok (.iinc 2 1, 3) := by decide +kernel
theorem dX8_countOnRoad_22 : decode cX8_countOnRoad 22 = .ok (.goto (-18), 3) := by decide +kernel
theorem dX8_countOnRoad_25 : decode cX8_countOnRoad 25 = .ok (.iload_n 1, 1) := by decide +kernel
theorem dX8_countOnRoad_26 : decode cX8_countOnRoad 26 = .ok (.ireturn, 1) := by decide +kernel
theorem dX9_init_0 : decode cX9_init 0 = .ok (.aload_n 0, 1) := by decide +kernel
theorem dX9_init_1 : decode cX9_init 1 = .ok (.invokespecial 1, 3) := by decide +kernel
theorem dX9_init_4 : decode cX9_init 4 = .ok (.aload_n 0, 1) := by decide +kernel
theorem dX9_init_5 : decode cX9_init 5 = .ok (.iconst 0, 1) := by decide +kernel
theorem dX9_init_6 : decode cX9_init 6 = .ok (.putfield 7, 3) := by decide +kernel
theorem dX9_init_9 : decode cX9_init 9 = .ok (.aload_n 0, 1) := by decide +kernel
theorem dX9_init_10 : decode cX9_init 10 = .ok (.new 13, 3) := by decide +kernel
theorem dX9_init_13 : decode cX9_init 13 = .ok (.dup, 1) := by decide +kernel
theorem dX9_init_14 : decode cX9_init 14 = .ok (.invokespecial 15, 3) := by decide +kernel
theorem dX9_init_17 : decode cX9_init 17 = .ok (.putfield 16, 3) := by decide +kernel
theorem dX9_init_20 : decode cX9_init 20 = .ok (.aload_n 0, 1) := by decide +kernel
theorem dX9_init_21 : decode cX9_init 21 = .ok (.new 20, 3) := by decide +kernel
theorem dX9_init_24 : decode cX9_init 24 = .ok (.dup, 1) := by decide +kernel
theorem dX9_init_25 : decode cX9_init 25 = .ok (.invokespecial 22, 3) := by decide +kernel
theorem dX9_init_28 : decode cX9_init 28 = .ok (.putfield 23, 3) := by decide +kernel
theorem dX9_init_31 : decode cX9_init 31 = .ok (.aload_n 0, 1) := by decide +kernel
theorem dX9_init_32 : decode cX9_init 32 = .ok (.new 27, 3) := by decide +kernel
theorem dX9_init_35 : decode cX9_init 35 = .ok (.dup, 1) := by decide +kernel
theorem dX9_init_36 : decode cX9_init 36 = .ok (.invokespecial 29, 3) := by decide +kernel
theorem dX9_init_39 : decode cX9_init 39 = .ok (.putfield 30, 3) := by decide +kernel
theorem dX9_init_42 : decode cX9_init 42 = .ok (.aload_n 0, 1) := by decide +kernel
theorem dX9_init_43 : decode cX9_init 43 = .ok (.new 34, 3) := by decide +kernel
theorem dX9_init_46 : decode cX9_init 46 = .ok (.dup, 1) := by decide +kernel
theorem dX9_init_47 : decode cX9_init 47 = .ok (.invokespecial 36, 3) := by decide +kernel
theorem dX9_init_50 : decode cX9_init 50 = .ok (.putfield 37, 3) := by decide +kernel
theorem dX9_init_53 : decode cX9_init 53 = .ok (.aload_n 0, 1) := by decide +kernel
theorem dX9_init_54 : decode cX9_init 54 = .ok (.new 41, 3) := by decide +kernel
theorem dX9_init_57 : decode cX9_init 57 = .ok (.dup, 1) := by decide +kernel
theorem dX9_init_58 : decode cX9_init 58 = .ok (.invokespecial 43, 3) := by decide +kernel
theorem dX9_init_61 : decode cX9_init 61 = .ok (.putfield 44, 3) := by decide +kernel
theorem dX9_init_64 : decode cX9_init 64 = .ok (.aload_n 0, 1) := by decide +kernel
theorem dX9_init_65 : decode cX9_init 65 = .ok (.new 48, 3) := by decide +kernel
theorem dX9_init_68 : decode cX9_init 68 = .ok (.dup, 1) := by decide +kernel
theorem dX9_init_69 : decode cX9_init 69 = .ok (.invokespecial 50, 3) := by decide +kernel
theorem dX9_init_72 : decode cX9_init 72 = .ok (.putfield 51, 3) := by decide +kernel
theorem dX9_init_75 : decode cX9_init 75 = .ok (.aload_n 0, 1) := by decide +kernel
theorem dX9_init_76 : decode cX9_init 76 = .ok (.new 55, 3) := by decide +kernel
theorem dX9_init_79 : decode cX9_init 79 = .ok (.dup, 1) := by decide +kernel
theorem dX9_init_80 : decode cX9_init 80 = .ok (.invokespecial 57, 3) := by decide +kernel
theorem dX9_init_83 : decode cX9_init 83 = .ok (.putfield 58, 3) := by decide +kernel
theorem dX9_init_86 : decode cX9_init 86 = .ok (.aload_n 0, 1) := by decide +kernel
theorem dX9_init_87 : decode cX9_init 87 = .ok (.new 62, 3) := by decide +kernel
theorem dX9_init_90 : decode cX9_init 90 = .ok (.dup, 1) := by decide +kernel
theorem dX9_init_91 : decode cX9_init 91 = .ok (.invokespecial 64, 3) := by decide +kernel
theorem dX9_init_94 : decode cX9_init 94 = .ok (.putfield 65, 3) := by decide +kernel
theorem dX9_init_97 : decode cX9_init 97 = .ok (.aload_n 0, 1) := by decide +kernel
theorem dX9_init_98 : decode cX9_init 98 = .ok (.new 69, 3) := by decide +kernel
theorem dX9_init_101 : decode cX9_init 101 = .ok (.dup, 1) := by decide +kernel
theorem dX9_init_102 : decode cX9_init 102 = .ok (.invokespecial 71, 3) := by decide +kernel
theorem dX9_init_105 : decode cX9_init 105 = .ok (.putfield 72, 3) := by decide +kernel
theorem dX9_init_108 : decode cX9_init 108 = .ok (.aload_n 0, 1) := by decide +kernel
theorem dX9_init_109 : decode cX9_init 109 = .ok (.getfield 37, 3) := by decide +kernel
theorem dX9_init_112 : decode cX9_init 112 = .ok (.aload_n 0, 1) := by decide +kernel
theorem dX9_init_113 : decode cX9_init 113 = .ok (.getfield 7, 3) := by decide +kernel
theorem dX9_init_116 : decode cX9_init 116 = .ok (.aload_n 0, 1) := by decide +kernel
theorem dX9_init_117 : decode cX9_init 117 = .ok (.getfield 44, 3) := by decide +kernel
theorem dX9_init_120 : decode cX9_init 120 = .ok (.aload_n 0, 1) := by decide +kernel
theorem dX9_init_121 : decode cX9_init 121 = .ok (.getfield 51, 3) := by decide +kernel
theorem dX9_init_124 : decode cX9_init 124 = .ok (.aload_n 0, 1) := by decide +kernel
theorem dX9_init_125 : decode cX9_init 125 = .ok (.getfield 65, 3) := by decide +kernel
theorem dX9_init_128 : decode cX9_init 128 = .ok (.invokevirtual 76, 3) := by decide +kernel
theorem dX9_init_131 : decode cX9_init 131 = .ok (.aload_n 0, 1) := by decide +kernel
theorem dX9_init_132 : decode cX9_init 132 = .ok (.getfield 72, 3) := by decide +kernel
theorem dX9_init_135 : decode cX9_init 135 = .ok (.aload_n 0, 1) := by decide +kernel
theorem dX9_init_136 : decode cX9_init 136 = .ok (.getfield 7, 3) := by decide +kernel
theorem dX9_init_139 : decode cX9_init 139 = .ok (.aload_n 0, 1) := by decide +kernel
theorem dX9_init_140 : decode cX9_init 140 = .ok (.getfield 30, 3) := by decide +kernel
theorem dX9_init_143 : decode cX9_init 143 = .ok (.getfield 80, 3) := by decide +kernel
theorem dX9_init_146 : decode cX9_init 146 = .ok (.aload_n 0, 1) := by decide +kernel
theorem dX9_init_147 : decode cX9_init 147 = .ok (.getfield 37, 3) := by decide +kernel
theorem dX9_init_150 : decode cX9_init 150 = .ok (.getfield 84, 3) := by decide +kernel
theorem dX9_init_153 : decode cX9_init 153 = .ok (.invokevirtual 85, 3) := by decide +kernel
theorem dX9_init_156 : decode cX9_init 156 = .ok (.return_, 1) := by decide +kernel
theorem dX9_holds_0 : decode cX9_holds 0 = .ok (.iload_n 1, 1) := by decide +kernel
theorem dX9_holds_1 : decode cX9_holds 1 = .ok (.iload_n 2, 1) := by decide +kernel
theorem dX9_holds_2 : decode cX9_holds 2 = .ok (.invokestatic 106, 3) := by decide +kernel
theorem dX9_holds_5 : decode cX9_holds 5 = .ok (.aload_n 0, 1) := by decide +kernel
theorem dX9_holds_6 : decode cX9_holds 6 = .ok (.getfield 16, 3) := by decide +kernel
theorem dX9_holds_9 : decode cX9_holds 9 = .ok (.getfield 110, 3) := by decide +kernel
theorem dX9_holds_12 : decode cX9_holds 12 = .ok (.iload_n 1, 1) := by decide +kernel
theorem dX9_holds_13 : decode cX9_holds 13 = .ok (.iload_n 2, 1) := by decide +kernel
theorem dX9_holds_14 : decode cX9_holds 14 = .ok (.invokestatic 113, 3) := by decide +kernel
theorem dX9_holds_17 : decode cX9_holds 17 = .ok (.iaload, 1) := by decide +kernel
theorem dX9_holds_18 : decode cX9_holds 18 = .ok (.ireturn, 1) := by decide +kernel
theorem dX9_vehicles_0 : decode cX9_vehicles 0 = .ok (.iload_n 1, 1) := by decide +kernel
theorem dX9_vehicles_1 : decode cX9_vehicles 1 = .ok (.iconst 0, 1) := by decide +kernel
theorem dX9_vehicles_2 : decode cX9_vehicles 2 = .ok (.iconst 3, 1) := by decide +kernel
theorem dX9_vehicles_3 : decode cX9_vehicles 3 = .ok (.invokestatic 89, 3) := by decide +kernel
theorem dX9_vehicles_6 : decode cX9_vehicles 6 = .ok (.invokestatic 93, 3) := by decide +kernel
theorem dX9_vehicles_9 : decode cX9_vehicles 9 = .ok (.iload_n 1, 1) := by decide +kernel
theorem dX9_vehicles_10 : decode cX9_vehicles 10 = .ok (.tableswitch 50 0 2 #[26, 34, 42], 26) := by decide +kernel
theorem dX9_vehicles_36 : decode cX9_vehicles 36 = .ok (.aload_n 0, 1) := by decide +kernel
theorem dX9_vehicles_37 : decode cX9_vehicles 37 = .ok (.getfield 16, 3) := by decide +kernel
theorem dX9_vehicles_40 : decode cX9_vehicles 40 = .ok (.getfield 117, 3) := by decide +kernel
theorem dX9_vehicles_43 : decode cX9_vehicles 43 = .ok (.ireturn, 1) := by decide +kernel
theorem dX9_vehicles_44 : decode cX9_vehicles 44 = .ok (.aload_n 0, 1) := by decide +kernel
theorem dX9_vehicles_45 : decode cX9_vehicles 45 = .ok (.getfield 16, 3) := by decide +kernel
theorem dX9_vehicles_48 : decode cX9_vehicles 48 = .ok (.invokevirtual 120, 3) := by decide +kernel
theorem dX9_vehicles_51 : decode cX9_vehicles 51 = .ok (.ireturn, 1) := by decide +kernel
theorem dX9_vehicles_52 : decode cX9_vehicles 52 = .ok (.aload_n 0, 1) := by decide +kernel
theorem dX9_vehicles_53 : decode cX9_vehicles 53 = .ok (.getfield 16, 3) := by decide +kernel
theorem dX9_vehicles_56 : decode cX9_vehicles 56 = .ok (.getfield 124, 3) := by decide +kernel
theorem dX9_vehicles_59 : decode cX9_vehicles 59 = .ok (.ireturn, 1) := by decide +kernel
theorem dX9_vehicles_60 : decode cX9_vehicles 60 = .ok (.aload_n 0, 1) := by decide +kernel
theorem dX9_vehicles_61 : decode cX9_vehicles 61 = .ok (.getfield 16, 3) := by decide +kernel
theorem dX9_vehicles_64 : decode cX9_vehicles 64 = .ok (.getfield 127, 3) := by decide +kernel
theorem dX9_vehicles_67 : decode cX9_vehicles 67 = .ok (.ireturn, 1) := by decide +kernel
theorem dX9_section_0 : decode cX9_section 0 = .ok (.iload_n 1, 1) := by decide +kernel
theorem dX9_section_1 : decode cX9_section 1 = .ok (.invokestatic 130, 3) := by decide +kernel
theorem dX9_section_4 : decode cX9_section 4 = .ok (.iload_n 2, 1) := by decide +kernel
theorem dX9_section_5 : decode cX9_section 5 = .ok (.iconst 0, 1) := by decide +kernel
theorem dX9_section_6 : decode cX9_section 6 = .ok (.iconst 5, 1) := by decide +kernel
theorem dX9_section_7 : decode cX9_section 7 = .ok (.invokestatic 89, 3) := by decide +kernel
theorem dX9_section_10 : decode cX9_section 10 = .ok (.invokestatic 93, 3) := by decide +kernel
theorem dX9_section_13 : decode cX9_section 13 = .ok (.iload_n 2, 1) := by decide +kernel
theorem dX9_section_14 : decode cX9_section 14 = .ok (.tableswitch 97 0 4 #[34, 43, 56, 69, 79], 34) := by decide +kernel
theorem dX9_section_48 : decode cX9_section 48 = .ok (.aload_n 0, 1) := by decide +kernel
theorem dX9_section_49 : decode cX9_section 49 = .ok (.getfield 16, 3) := by decide +kernel
theorem dX9_section_52 : decode cX9_section 52 = .ok (.iload_n 1, 1) := by decide +kernel
theorem dX9_section_53 : decode cX9_section 53 = .ok (.invokevirtual 134, 3) := by decide +kernel
theorem dX9_section_56 : decode cX9_section 56 = .ok (.ireturn, 1) := by decide +kernel
theorem dX9_section_57 : decode cX9_section 57 = .ok (.aload_n 0, 1) := by decide +kernel
theorem dX9_section_58 : decode cX9_section 58 = .ok (.getfield 23, 3) := by decide +kernel
theorem dX9_section_61 : decode cX9_section 61 = .ok (.iload_n 1, 1) := by decide +kernel
theorem dX9_section_62 : decode cX9_section 62 = .ok (.aload_n 0, 1) := by decide +kernel
theorem dX9_section_63 : decode cX9_section 63 = .ok (.getfield 16, 3) := by decide +kernel
theorem dX9_section_66 : decode cX9_section 66 = .ok (.invokevirtual 138, 3) := by decide +kernel
theorem dX9_section_69 : decode cX9_section 69 = .ok (.ireturn, 1) := by decide +kernel
theorem dX9_section_70 : decode cX9_section 70 = .ok (.aload_n 0, 1) := by decide +kernel
theorem dX9_section_71 : decode cX9_section 71 = .ok (.getfield 23, 3) := by decide +kernel
theorem dX9_section_74 : decode cX9_section 74 = .ok (.iload_n 1, 1) := by decide +kernel
theorem dX9_section_75 : decode cX9_section 75 = .ok (.aload_n 0, 1) := by decide +kernel
theorem dX9_section_76 : decode cX9_section 76 = .ok (.getfield 16, 3) := by decide +kernel
theorem dX9_section_79 : decode cX9_section 79 = .ok (.invokevirtual 142, 3) := by decide +kernel
theorem dX9_section_82 : decode cX9_section 82 = .ok (.ireturn, 1) := by decide +kernel
theorem dX9_section_83 : decode cX9_section 83 = .ok (.aload_n 0, 1) := by decide +kernel
theorem dX9_section_84 : decode cX9_section 84 = .ok (.getfield 30, 3) := by decide +kernel
theorem dX9_section_87 : decode cX9_section 87 = .ok (.getfield 80, 3) := by decide +kernel
theorem dX9_section_90 : decode cX9_section 90 = .ok (.iload_n 1, 1) := by decide +kernel
theorem dX9_section_91 : decode cX9_section 91 = .ok (.iaload, 1) := by decide +kernel
theorem dX9_section_92 : decode cX9_section 92 = .ok (.ireturn, 1) := by decide +kernel
theorem dX9_section_93 : decode cX9_section 93 = .ok (.aload_n 0, 1) := by decide +kernel
theorem dX9_section_94 : decode cX9_section 94 = .ok (.getfield 16, 3) := by decide +kernel
theorem dX9_section_97 : decode cX9_section 97 = .ok (.getfield 145, 3) := by decide +kernel
theorem dX9_section_100 : decode cX9_section 100 = .ok (.iload_n 1, 1) := by decide +kernel
theorem dX9_section_101 : decode cX9_section 101 = .ok (.baload, 1) := by decide +kernel
theorem dX9_section_102 : decode cX9_section 102 = .ok (.ifCond .eq 7, 3) := by decide +kernel
theorem dX9_section_105 : decode cX9_section 105 = .ok (.iconst 1, 1) := by decide +kernel
theorem dX9_section_106 : decode cX9_section 106 = .ok (.goto 4, 3) := by decide +kernel
theorem dX9_section_109 : decode cX9_section 109 = .ok (.iconst 0, 1) := by decide +kernel
theorem dX9_section_110 : decode cX9_section 110 = .ok (.ireturn, 1) := by decide +kernel
theorem dX9_section_111 : decode cX9_section 111 = .ok (.aload_n 0, 1) := by decide +kernel
theorem dX9_section_112 : decode cX9_section 112 = .ok (.getfield 23, 3) := by decide +kernel
theorem dX9_section_115 : decode cX9_section 115 = .ok (.getfield 149, 3) := by decide +kernel
theorem dX9_section_118 : decode cX9_section 118 = .ok (.iload_n 1, 1) := by decide +kernel
theorem dX9_section_119 : decode cX9_section 119 = .ok (.iaload, 1) := by decide +kernel
theorem dX9_section_120 : decode cX9_section 120 = .ok (.ireturn, 1) := by decide +kernel
theorem dX9_sign_0 : decode cX9_sign 0 = .ok (.iload_n 1, 1) := by decide +kernel
theorem dX9_sign_1 : decode cX9_sign 1 = .ok (.iload_n 2, 1) := by decide +kernel
theorem dX9_sign_2 : decode cX9_sign 2 = .ok (.invokestatic 106, 3) := by decide +kernel
theorem dX9_sign_5 : decode cX9_sign 5 = .ok (.aload_n 0, 1) := by decide +kernel
theorem dX9_sign_6 : decode cX9_sign 6 = .ok (.invokevirtual 168, 3) := by decide +kernel
theorem dX9_sign_9 : decode cX9_sign 9 = .ok (.aload_n 0, 1) := by decide +kernel
theorem dX9_sign_10 : decode cX9_sign 10 = .ok (.getfield 37, 3) := by decide +kernel
theorem dX9_sign_13 : decode cX9_sign 13 = .ok (.getfield 84, 3) := by decide +kernel
theorem dX9_sign_16 : decode cX9_sign 16 = .ok (.iload_n 1, 1) := by decide +kernel
theorem dX9_sign_17 : decode cX9_sign 17 = .ok (.iload_n 2, 1) := by decide +kernel
theorem dX9_sign_18 : decode cX9_sign 18 = .ok (.invokestatic 113, 3) := by decide +kernel
theorem dX9_sign_21 : decode cX9_sign 21 = .ok (.iaload, 1) := by decide +kernel
theorem dX9_sign_22 : decode cX9_sign 22 = .ok (.ireturn, 1) := by decide +kernel
theorem dX9_isLawful_0 : decode cX9_isLawful 0 = .ok (.aload_n 0, 1) := by decide +kernel
theorem dX9_isLawful_1 : decode cX9_isLawful 1 = .ok (.invokevirtual 168, 3) := by decide +kernel
theorem dX9_isLawful_4 : decode cX9_isLawful 4 = .ok (.aload_n 0, 1) := by decide +kernel
theorem dX9_isLawful_5 : decode cX9_isLawful 5 = .ok (.getfield 30, 3) := by decide +kernel
theorem dX9_isLawful_8 : decode cX9_isLawful 8 = .ok (.invokevirtual 171, 3) := by decide +kernel
theorem dX9_isLawful_11 : decode cX9_isLawful 11 = .ok (.ifCond .eq 17, 3) := by decide +kernel
theorem dX9_isLawful_14 : decode cX9_isLawful 14 = .ok (.aload_n 0, 1) := by decide +kernel
theorem dX9_isLawful_15 : decode cX9_isLawful 15 = .ok (.getfield 37, 3) := by decide +kernel
theorem dX9_isLawful_18 : decode cX9_isLawful 18 = .ok (.invokevirtual 175, 3) := by decide +kernel
theorem dX9_isLawful_21 : decode cX9_isLawful 21 = .ok (.ifCond .eq 7, 3) := by decide +kernel
theorem dX9_isLawful_24 : decode cX9_isLawful 24 = .ok (.iconst 1, 1) := by decide +kernel
theorem dX9_isLawful_25 : decode cX9_isLawful 25 = .ok (.goto 4, 3) := by decide +kernel
theorem dX9_isLawful_28 : decode cX9_isLawful 28 = .ok (.iconst 0, 1) := by decide +kernel
theorem dX9_isLawful_29 : decode cX9_isLawful 29 = .ok (.ireturn, 1) := by decide +kernel
theorem dX9_stop_0 : decode cX9_stop 0 = .ok (.iload_n 1, 1) := by decide +kernel
theorem dX9_stop_1 : decode cX9_stop 1 = .ok (.iload_n 2, 1) := by decide +kernel
theorem dX9_stop_2 : decode cX9_stop 2 = .ok (.invokestatic 106, 3) := by decide +kernel
theorem dX9_stop_5 : decode cX9_stop 5 = .ok (.iload_n 1, 1) := by decide +kernel
theorem dX9_stop_6 : decode cX9_stop 6 = .ok (.iload_n 2, 1) := by decide +kernel
theorem dX9_stop_7 : decode cX9_stop 7 = .ok (.invokestatic 113, 3) := by decide +kernel
theorem dX9_stop_10 : decode cX9_stop 10 = .ok (.istore_n 3, 1) := by decide +kernel
theorem dX9_stop_11 : decode cX9_stop 11 = .ok (.aload_n 0, 1) := by decide +kernel
theorem dX9_stop_12 : decode cX9_stop 12 = .ok (.getfield 16, 3) := by decide +kernel
theorem dX9_stop_15 : decode cX9_stop 15 = .ok (.getfield 191, 3) := by decide +kernel
theorem dX9_stop_18 : decode cX9_stop 18 = .ok (.iload_n 3, 1) := by decide +kernel
theorem dX9_stop_19 : decode cX9_stop 19 = .ok (.baload, 1) := by decide +kernel
theorem dX9_stop_20 : decode cX9_stop 20 = .ok (.ifCond .ne 7, 3) := by decide +kernel
theorem dX9_stop_23 : decode cX9_stop 23 = .ok (.iconst 1, 1) := by decide +kernel
theorem dX9_stop_24 : decode cX9_stop 24 = .ok (.goto 4, 3) := by decide +kernel
theorem dX9_stop_27 : decode cX9_stop 27 = .ok (.iconst 0, 1) := by decide +kernel
theorem dX9_stop_28 : decode cX9_stop 28 = .ok (.invokestatic 100, 3) := by decide +kernel
theorem dX9_stop_31 : decode cX9_stop 31 = .ok (.aload_n 0, 1) := by decide +kernel
theorem dX9_stop_32 : decode cX9_stop 32 = .ok (.getfield 16, 3) := by decide +kernel
theorem dX9_stop_35 : decode cX9_stop 35 = .ok (.getfield 191, 3) := by decide +kernel
theorem dX9_stop_38 : decode cX9_stop 38 = .ok (.iload_n 3, 1) := by decide +kernel
theorem dX9_stop_39 : decode cX9_stop 39 = .ok (.iconst 1, 1) := by decide +kernel
theorem dX9_stop_40 : decode cX9_stop 40 = .ok (.bastore, 1) := by decide +kernel
theorem dX9_stop_41 : decode cX9_stop 41 = .ok (.iload_n 2, 1) := by decide +kernel
theorem dX9_stop_42 : decode cX9_stop 42 = .ok (.ifCond .ne 23, 3) := by decide +kernel
theorem dX9_stop_45 : decode cX9_stop 45 = .ok (.aload_n 0, 1) := by decide +kernel
theorem dX9_stop_46 : decode cX9_stop 46 = .ok (.getfield 44, 3) := by decide +kernel
theorem dX9_stop_49 : decode cX9_stop 49 = .ok (.getfield 179, 3) := by decide +kernel
theorem dX9_stop_52 : decode cX9_stop 52 = .ok (.iload_n 1, 1) := by decide +kernel
theorem dX9_stop_53 : decode cX9_stop 53 = .ok (.sipush (-1000), 3) := by decide +kernel
theorem dX9_stop_56 : decode cX9_stop 56 = .ok (.iastore, 1) := by decide +kernel
theorem dX9_stop_57 : decode cX9_stop 57 = .ok (.aload_n 0, 1) := by decide +kernel
theorem dX9_stop_58 : decode cX9_stop 58 = .ok (.getfield 44, 3) := by decide +kernel
theorem dX9_stop_61 : decode cX9_stop 61 = .ok (.invokevirtual 188, 3) := by decide +kernel
theorem dX9_stop_64 : decode cX9_stop 64 = .ok (.pop, 1) := by decide +kernel
theorem dX9_stop_65 : decode cX9_stop 65 = .ok (.return_, 1) := by decide +kernel
theorem dX9_pattern_0 : decode cX9_pattern 0 = .ok (.iconst 0, 1) := by decide +kernel
theorem dX9_pattern_1 : decode cX9_pattern 1 = .ok (.istore_n 1, 1) := by decide +kernel
theorem dX9_pattern_2 : decode cX9_pattern 2 = .ok (.iload_n 1, 1) := by decide +kernel
theorem dX9_pattern_3 : decode cX9_pattern 3 = .ok (.bipush 11, 2) := by decide +kernel
theorem dX9_pattern_5 : decode cX9_pattern 5 = .ok (.if_icmp .ge 54, 3) := by decide +kernel
theorem dX9_pattern_8 : decode cX9_pattern 8 = .ok (.aload_n 0, 1) := by decide +kernel
theorem dX9_pattern_9 : decode cX9_pattern 9 = .ok (.getfield 23, 3) := by decide +kernel
theorem dX9_pattern_12 : decode cX9_pattern 12 = .ok (.iload_n 1, 1) := by decide +kernel
theorem dX9_pattern_13 : decode cX9_pattern 13 = .ok (.aload_n 0, 1) := by decide +kernel
theorem dX9_pattern_14 : decode cX9_pattern 14 = .ok (.getfield 16, 3) := by decide +kernel
theorem dX9_pattern_17 : decode cX9_pattern 17 = .ok (.invokevirtual 138, 3) := by decide +kernel
theorem dX9_pattern_20 : decode cX9_pattern 20 = .ok (.istore_n 2, 1) := by decide +kernel
theorem dX9_pattern_21 : decode cX9_pattern 21 = .ok (.iload_n 2, 1) := by decide +kernel
theorem dX9_pattern_22 : decode cX9_pattern 22 = .ok (.iconst (-1), 1) := by decide +kernel
theorem dX9_pattern_23 : decode cX9_pattern 23 = .ok (.if_icmp .eq 30, 3) := by decide +kernel
theorem dX9_pattern_26 : decode cX9_pattern 26 = .ok (.iload_n 2, 1) := by decide +kernel
theorem dX9_pattern_27 : decode cX9_pattern 27 = .ok (.bipush 40, 2) := by decide +kernel
theorem dX9_pattern_29 : decode cX9_pattern 29 = .ok (.if_icmp .ge 24, 3) := by decide +kernel
theorem dX9_pattern_32 : decode cX9_pattern 32 = .ok (.aload_n 0, 1) := by decide +kernel
theorem dX9_pattern_33 : decode cX9_pattern 33 = .ok (.getfield 23, 3) := by decide +kernel
theorem dX9_pattern_36 : decode cX9_pattern 36 = .ok (.iload_n 1, 1) := by decide +kernel
theorem dX9_pattern_37 : decode cX9_pattern 37 = .ok (.iconst 1, 1) := by decide +kernel
theorem dX9_pattern_38 : decode cX9_pattern 38 = .ok (.iadd, 1) := by decide +kernel
theorem dX9_pattern_39 : decode cX9_pattern 39 = .ok (.aload_n 0, 1) := by decide +kernel
theorem dX9_pattern_40 : decode cX9_pattern 40 = .ok (.getfield 16, 3) := by decide +kernel
theorem dX9_pattern_43 : decode cX9_pattern 43 = .ok (.invokevirtual 138, 3) := by decide +kernel
theorem dX9_pattern_46 : decode cX9_pattern 46 = .ok (.bipush 80, 2) := by decide +kernel
theorem dX9_pattern_48 : decode cX9_pattern 48 = .ok (.if_icmp .lt 5, 3) := by decide +kernel
theorem dX9_pattern_51 : decode cX9_pattern 51 = .ok (.iload_n 1, 1) := by decide +kernel
theorem dX9_pattern_52 : decode cX9_pattern 52 = .ok (.ireturn, 1) := by decide +kernel
theorem dX9_pattern_53 : decode cX9_pattern 53 = .ok (.iinc 1 1, 3) := by decide +kernel
theorem dX9_pattern_56 : decode cX9_pattern 56 = .ok (.goto (-54), 3) := by decide +kernel
theorem dX9_pattern_59 : decode cX9_pattern 59 = .ok (.iconst (-1), 1) := by decide +kernel
theorem dX9_pattern_60 : decode cX9_pattern 60 = .ok (.ireturn, 1) := by decide +kernel
theorem dX9_proof_0 : decode cX9_proof 0 = .ok (.iload_n 2, 1) := by decide +kernel
theorem dX9_proof_1 : decode cX9_proof 1 = .ok (.invokestatic 130, 3) := by decide +kernel
theorem dX9_proof_4 : decode cX9_proof 4 = .ok (.iload_n 1, 1) := by decide +kernel
theorem dX9_proof_5 : decode cX9_proof 5 = .ok (.ifCond .lt 7, 3) := by decide +kernel
theorem dX9_proof_8 : decode cX9_proof 8 = .ok (.iconst 1, 1) := by decide +kernel
theorem dX9_proof_9 : decode cX9_proof 9 = .ok (.goto 4, 3) := by decide +kernel
theorem dX9_proof_12 : decode cX9_proof 12 = .ok (.iconst 0, 1) := by decide +kernel
theorem dX9_proof_13 : decode cX9_proof 13 = .ok (.invokestatic 93, 3) := by decide +kernel
theorem dX9_proof_16 : decode cX9_proof 16 = .ok (.iload_n 3, 1) := by decide +kernel
theorem dX9_proof_17 : decode cX9_proof 17 = .ok (.iconst 0, 1) := by decide +kernel
theorem dX9_proof_18 : decode cX9_proof 18 = .ok (.iconst 4, 1) := by decide +kernel
theorem dX9_proof_19 : decode cX9_proof 19 = .ok (.invokestatic 89, 3) := by decide +kernel
theorem dX9_proof_22 : decode cX9_proof 22 = .ok (.invokestatic 93, 3) := by decide +kernel
theorem dX9_proof_25 : decode cX9_proof 25 = .ok (.iload_n 1, 1) := by decide +kernel
theorem dX9_proof_26 : decode cX9_proof 26 = .ok (.aload_n 0, 1) := by decide +kernel
theorem dX9_proof_27 : decode cX9_proof 27 = .ok (.getfield 7, 3) := by decide +kernel
theorem dX9_proof_30 : decode cX9_proof 30 = .ok (.invokestatic 248, 3) := by decide +kernel
theorem dX9_proof_33 : decode cX9_proof 33 = .ok (.invokestatic 100, 3) := by decide +kernel
theorem dX9_proof_36 : decode cX9_proof 36 = .ok (.iload_n 3, 1) := by decide +kernel
theorem dX9_proof_37 : decode cX9_proof 37 = .ok (.ifCond .ne 13, 3) := by decide +kernel
theorem dX9_proof_40 : decode cX9_proof 40 = .ok (.aload_n 0, 1) := by decide +kernel
theorem dX9_proof_41 : decode cX9_proof 41 = .ok (.getfield 72, 3) := by decide +kernel
theorem dX9_proof_44 : decode cX9_proof 44 = .ok (.iload_n 1, 1) := by decide +kernel
theorem dX9_proof_45 : decode cX9_proof 45 = .ok (.iload_n 2, 1) := by decide +kernel
theorem dX9_proof_46 : decode cX9_proof 46 = .ok (.invokevirtual 251, 3) := by decide +kernel
theorem dX9_proof_49 : decode cX9_proof 49 = .ok (.ireturn, 1) := by decide +kernel
theorem dX9_proof_50 : decode cX9_proof 50 = .ok (.aload_n 0, 1) := by decide +kernel
theorem dX9_proof_51 : decode cX9_proof 51 = .ok (.getfield 72, 3) := by decide +kernel
theorem dX9_proof_54 : decode cX9_proof 54 = .ok (.iload_n 1, 1) := by decide +kernel
theorem dX9_proof_55 : decode cX9_proof 55 = .ok (.iload_n 2, 1) := by decide +kernel
theorem dX9_proof_56 : decode cX9_proof 56 = .ok (.iload_n 3, 1) := by decide +kernel
theorem dX9_proof_57 : decode cX9_proof 57 = .ok (.iconst 1, 1) := by decide +kernel
theorem dX9_proof_58 : decode cX9_proof 58 = .ok (.isub, 1) := by decide +kernel
theorem dX9_proof_59 : decode cX9_proof 59 = .ok (.invokevirtual 254, 3) := by decide +kernel
theorem dX9_proof_62 : decode cX9_proof 62 = .ok (.ireturn, 1) := by decide +kernel
theorem dX9_isWithin_0 : decode cX9_isWithin 0 = .ok (.iload_n 0, 1) := by decide +kernel
theorem dX9_isWithin_1 : decode cX9_isWithin 1 = .ok (.iload_n 1, 1) := by decide +kernel
theorem dX9_isWithin_2 : decode cX9_isWithin 2 = .ok (.if_icmp .lt 12, 3) := by decide +kernel
theorem dX9_isWithin_5 : decode cX9_isWithin 5 = .ok (.iload_n 0, 1) := by decide +kernel
theorem dX9_isWithin_6 : decode cX9_isWithin 6 = .ok (.iload_n 2, 1) := by decide +kernel
theorem dX9_isWithin_7 : decode cX9_isWithin 7 = .ok (.if_icmp .gt 7, 3) := by decide +kernel
theorem dX9_isWithin_10 : decode cX9_isWithin 10 = .ok (.iconst 1, 1) := by decide +kernel
theorem dX9_isWithin_11 : decode cX9_isWithin 11 = .ok (.goto 4, 3) := by decide +kernel
theorem dX9_isWithin_14 : decode cX9_isWithin 14 = .ok (.iconst 0, 1) := by decide +kernel
theorem dX9_isWithin_15 : decode cX9_isWithin 15 = .ok (.ireturn, 1) := by decide +kernel
theorem dX9_placeOf_0 : decode cX9_placeOf 0 = .ok (.iload_n 0, 1) := by decide +kernel
theorem dX9_placeOf_1 : decode cX9_placeOf 1 = .ok (.iconst 4, 1) := by decide +kernel
theorem dX9_placeOf_2 : decode cX9_placeOf 2 = .ok (.imul, 1) := by decide +kernel
theorem dX9_placeOf_3 : decode cX9_placeOf 3 = .ok (.iload_n 1, 1) := by decide +kernel
theorem dX9_placeOf_4 : decode cX9_placeOf 4 = .ok (.iadd, 1) := by decide +kernel
theorem dX9_placeOf_5 : decode cX9_placeOf 5 = .ok (.ireturn, 1) := by decide +kernel
theorem dX9_needIndex_0 : decode cX9_needIndex 0 = .ok (.iload_n 0, 1) := by decide +kernel
theorem dX9_needIndex_1 : decode cX9_needIndex 1 = .ok (.ifCond .ne 14, 3) := by decide +kernel
theorem dX9_needIndex_4 : decode cX9_needIndex 4 = .ok (.new 258, 3) := by decide +kernel
theorem dX9_needIndex_7 : decode cX9_needIndex 7 = .ok (.dup, 1) := by decide +kernel
theorem dX9_needIndex_8 : decode cX9_needIndex 8 = .ok (.ldc_w 260, 3) := by decide +kernel
theorem dX9_needIndex_11 : decode cX9_needIndex 11 = .ok (.invokespecial 262, 3) := by decide +kernel
theorem dX9_needIndex_14 : decode cX9_needIndex 14 = .ok (.athrow, 1) := by decide +kernel
theorem dX9_needIndex_15 : decode cX9_needIndex 15 = .ok (.return_, 1) := by decide +kernel
theorem dX9_needArgument_0 : decode cX9_needArgument 0 = .ok (.iload_n 0, 1) := by decide +kernel
theorem dX9_needArgument_1 : decode cX9_needArgument 1 = .ok (.ifCond .ne 14, 3) := by decide +kernel
theorem dX9_needArgument_15 : decode cX9_needArgument 15 = .ok (.return_, 1) := by decide +kernel
theorem dX9_needState_0 : decode cX9_needState 0 = .ok (.iload_n 0, 1) := by decide +kernel
theorem dX9_needState_1 : decode cX9_needState 1 = .ok (.ifCond .ne 14, 3) := by decide +kernel
theorem dX9_needState_4 : decode cX9_needState 4 = .ok (.new 270, 3) := by decide +kernel
theorem dX9_needState_7 : decode cX9_needState 7 = .ok (.dup, 1) := by decide +kernel
theorem dX9_needState_8 : decode cX9_needState 8 = .ok (.ldc_w 272, 3) := by decide +kernel
theorem dX9_needState_11 : decode cX9_needState 11 = .ok (.invokespecial 274, 3) := by decide +kernel
theorem dX9_needState_14 : decode cX9_needState 14 = .ok (.athrow, 1) := by decide +kernel
theorem dX9_needState_15 : decode cX9_needState 15 = .ok (.return_, 1) := by decide +kernel
theorem dX9_needSection_0 : decode cX9_needSection 0 = .ok (.iload_n 0, 1) := by decide +kernel
theorem dX9_needSection_1 : decode cX9_needSection 1 = .ok (.iconst 0, 1) := by decide +kernel
theorem dX9_needSection_2 : decode cX9_needSection 2 = .ok (.bipush 11, 2) := by decide +kernel
theorem dX9_needSection_4 : decode cX9_needSection 4 = .ok (.invokestatic 89, 3) := by decide +kernel
theorem dX9_needSection_7 : decode cX9_needSection 7 = .ok (.invokestatic 203, 3) := by decide +kernel
theorem dX9_needSection_10 : decode cX9_needSection 10 = .ok (.return_, 1) := by decide +kernel
theorem dX9_needPlace_0 : decode cX9_needPlace 0 = .ok (.iload_n 0, 1) := by decide +kernel
theorem dX9_needPlace_1 : decode cX9_needPlace 1 = .ok (.invokestatic 130, 3) := by decide +kernel
theorem dX9_needPlace_4 : decode cX9_needPlace 4 = .ok (.iload_n 1, 1) := by decide +kernel
theorem dX9_needPlace_5 : decode cX9_needPlace 5 = .ok (.iconst 0, 1) := by decide +kernel
theorem dX9_needPlace_6 : decode cX9_needPlace 6 = .ok (.iconst 3, 1) := by decide +kernel
theorem dX9_needPlace_7 : decode cX9_needPlace 7 = .ok (.invokestatic 89, 3) := by decide +kernel
theorem dX9_needPlace_10 : decode cX9_needPlace 10 = .ok (.invokestatic 203, 3) := by decide +kernel
theorem dX9_needPlace_13 : decode cX9_needPlace 13 = .ok (.return_, 1) := by decide +kernel
theorem dX9_setLaneSigns_0 : decode cX9_setLaneSigns 0 = .ok (.aload_n 0, 1) := by decide +kernel
theorem dX9_setLaneSigns_1 : decode cX9_setLaneSigns 1 = .ok (.getfield 37, 3) := by decide +kernel
theorem dX9_setLaneSigns_4 : decode cX9_setLaneSigns 4 = .ok (.aload_n 0, 1) := by decide +kernel
theorem dX9_setLaneSigns_5 : decode cX9_setLaneSigns 5 = .ok (.getfield 7, 3) := by decide +kernel
theorem dX9_setLaneSigns_8 : decode cX9_setLaneSigns 8 = .ok (.aload_n 0, 1) := by decide +kernel
theorem dX9_setLaneSigns_9 : decode cX9_setLaneSigns 9 = .ok (.getfield 44, 3) := by decide +kernel
theorem dX9_setLaneSigns_12 : decode cX9_setLaneSigns 12 = .ok (.aload_n 0, 1) := by decide +kernel
theorem dX9_setLaneSigns_13 : decode cX9_setLaneSigns 13 = .ok (.getfield 51, 3) := by decide +kernel
theorem dX9_setLaneSigns_16 : decode cX9_setLaneSigns 16 = .ok (.aload_n 0, 1) := by decide +kernel
theorem dX9_setLaneSigns_17 : decode cX9_setLaneSigns 17 = .ok (.getfield 65, 3) := by decide +kernel
theorem dX9_setLaneSigns_20 : decode cX9_setLaneSigns 20 = .ok (.invokevirtual 76, 3) := by decide +kernel
theorem dX9_setLaneSigns_23 : decode cX9_setLaneSigns 23 = .ok (.return_, 1) := by decide +kernel
theorem dJ9_floorMod_7cf53_0 : decode cJ9_floorMod_7cf53 0 = .ok (.iload_n 0, 1) := by decide +kernel
theorem dJ9_floorMod_7cf53_1 : decode cJ9_floorMod_7cf53 1 = .ok (.iload_n 1, 1) := by decide +kernel
theorem dJ9_floorMod_7cf53_2 : decode cJ9_floorMod_7cf53 2 = .ok (.irem, 1) := by decide +kernel
theorem dJ9_floorMod_7cf53_3 : decode cJ9_floorMod_7cf53 3 = .ok (.istore_n 2, 1) := by decide +kernel
theorem dJ9_floorMod_7cf53_4 : decode cJ9_floorMod_7cf53 4 = .ok (.iload_n 0, 1) := by decide +kernel
theorem dJ9_floorMod_7cf53_5 : decode cJ9_floorMod_7cf53 5 = .ok (.iload_n 1, 1) := by decide +kernel
theorem dJ9_floorMod_7cf53_6 : decode cJ9_floorMod_7cf53 6 = .ok (.ixor, 1) := by decide +kernel
theorem dJ9_floorMod_7cf53_7 : decode cJ9_floorMod_7cf53 7 = .ok (.ifCond .ge 11, 3) := by decide +kernel
theorem dJ9_floorMod_7cf53_10 : decode cJ9_floorMod_7cf53 10 = .ok (.iload_n 2, 1) := by decide +kernel
theorem dJ9_floorMod_7cf53_11 : decode cJ9_floorMod_7cf53 11 = .ok (.ifCond .eq 7, 3) := by decide +kernel
theorem dJ9_floorMod_7cf53_14 : decode cJ9_floorMod_7cf53 14 = .ok (.iload_n 2, 1) := by decide +kernel
theorem dJ9_floorMod_7cf53_15 : decode cJ9_floorMod_7cf53 15 = .ok (.iload_n 1, 1) := by decide +kernel
theorem dJ9_floorMod_7cf53_16 : decode cJ9_floorMod_7cf53 16 = .ok (.iadd, 1) := by decide +kernel
theorem dJ9_floorMod_7cf53_17 : decode cJ9_floorMod_7cf53 17 = .ok (.ireturn, 1) := by decide +kernel
theorem dJ9_floorMod_7cf53_18 : decode cJ9_floorMod_7cf53 18 = .ok (.iload_n 2, 1) := by decide +kernel
theorem dJ9_floorMod_7cf53_19 : decode cJ9_floorMod_7cf53 19 = .ok (.ireturn, 1) := by decide +kernel
theorem dL_draw_0 : decode cL_draw 0 = .ok (.iload_n 1, 1) := by decide +kernel
theorem dL_draw_1 : decode cL_draw 1 = .ok (.aload_n 0, 1) := by decide +kernel
theorem dL_draw_2 : decode cL_draw 2 = .ok (.arraylength, 1) := by decide +kernel
theorem dL_draw_3 : decode cL_draw 3 = .ok (.if_icmp .ge 12, 3) := by decide +kernel
theorem dL_draw_6 : decode cL_draw 6 = .ok (.aload_n 0, 1) := by decide +kernel
theorem dL_draw_7 : decode cL_draw 7 = .ok (.iload_n 1, 1) := by decide +kernel
theorem dL_draw_8 : decode cL_draw 8 = .ok (.iaload, 1) := by decide +kernel
theorem dL_draw_9 : decode cL_draw 9 = .ok (.ldc 7, 2) := by decide +kernel
theorem dL_draw_11 : decode cL_draw 11 = .ok (.iand, 1) := by decide +kernel
theorem dL_draw_12 : decode cL_draw 12 = .ok (.goto 12, 3) := by decide +kernel
theorem dL_draw_24 : decode cL_draw 24 = .ok (.ireturn, 1) := by decide +kernel
theorem dL_stop_0 : decode cL_stop 0 = .ok (.aload_n 0, 1) := by decide +kernel
theorem dL_stop_1 : decode cL_stop 1 = .ok (.iload_n 1, 1) := by decide +kernel
theorem dL_stop_2 : decode cL_stop 2 = .ok (.iload_n 2, 1) := by decide +kernel
theorem dL_stop_3 : decode cL_stop 3 = .ok (.invokevirtual 35, 3) := by decide +kernel
theorem dL_stop_6 : decode cL_stop 6 = .ok (.goto 6, 3) := by decide +kernel
theorem dL_stop_9 : decode cL_stop 9 = .ok (.astore_n 3, 1) := by decide +kernel
theorem dL_stop_10 : decode cL_stop 10 = .ok (.iconst 0, 1) := by decide +kernel
theorem dL_stop_11 : decode cL_stop 11 = .ok (.ireturn, 1) := by decide +kernel
theorem dL_stop_12 : decode cL_stop 12 = .ok (.iconst 1, 1) := by decide +kernel
theorem dL_stop_13 : decode cL_stop 13 = .ok (.ireturn, 1) := by decide +kernel
theorem dL_step_0 : decode cL_step 0 = .ok (.iload_n 3, 1) := by decide +kernel
theorem dL_step_1 : decode cL_step 1 = .ok (.bipush 12, 2) := by decide +kernel
theorem dL_step_3 : decode cL_step 3 = .ok (.irem, 1) := by decide +kernel
theorem dL_step_4 : decode cL_step 4 = .ok (.istore 5, 2) := by decide +kernel
theorem dL_step_6 : decode cL_step 6 = .ok (.iload 4, 2) := by decide +kernel
theorem dL_step_8 : decode cL_step 8 = .ok (.iconst 4, 1) := by decide +kernel
theorem dL_step_9 : decode cL_step 9 = .ok (.irem, 1) := by decide +kernel
theorem dL_step_10 : decode cL_step 10 = .ok (.istore 6, 2) := by decide +kernel
theorem dL_step_12 : decode cL_step 12 = .ok (.iload_n 2, 1) := by decide +kernel
theorem dL_step_13 : decode cL_step 13 = .ok (.bipush 28, 2) := by decide +kernel
theorem dL_step_15 : decode cL_step 15 = .ok (.irem, 1) := by decide +kernel
theorem dL_step_16 : decode cL_step 16 = .ok (.tableswitch 666 0 22 #[108, 108, 108, 128, 128, 145, 145, 217, 217, 217, 329, 329, 339, 339, 339, 370, 370, 480, 513, 566, 566, 615, 661], 108) := by decide +kernel
theorem dL_step_161 : decode cL_step 161 = .ok (.aload_n 0, 1) := by decide +kernel
theorem dL_step_162 : decode cL_step 162 = .ok (.iload 5, 2) := by decide +kernel
theorem dL_step_164 : decode cL_step 164 = .ok (.iload 6, 2) := by decide +kernel
theorem dL_step_166 : decode cL_step 166 = .ok (.invokestatic 52, 3) := by decide +kernel
theorem dL_step_169 : decode cL_step 169 = .ok (.istore 7, 2) := by decide +kernel
theorem dL_step_171 : decode cL_step 171 = .ok (.aload_n 1, 1) := by decide +kernel
theorem dL_step_172 : decode cL_step 172 = .ok (.iconst 3, 1) := by decide +kernel
theorem dL_step_173 : decode cL_step 173 = .ok (.iload 7, 2) := by decide +kernel
theorem dL_step_175 : decode cL_step 175 = .ok (.ifCond .eq 12, 3) := by decide +kernel
theorem dL_step_178 : decode cL_step 178 = .ok (.iload 6, 2) := by decide +kernel
theorem dL_step_180 : decode cL_step 180 = .ok (.ifCond .ne 7, 3) := by decide +kernel
theorem dL_step_187 : decode cL_step 187 = .ok (.aload_n 1, 1) := by decide +kernel
theorem dL_step_188 : decode cL_step 188 = .ok (.iconst 3, 1) := by decide +kernel
theorem dL_step_189 : decode cL_step 189 = .ok (.iaload, 1) := by decide +kernel
theorem dL_step_190 : decode cL_step 190 = .ok (.iastore, 1) := by decide +kernel
theorem dL_step_191 : decode cL_step 191 = .ok (.aload_n 0, 1) := by decide +kernel
theorem dL_step_192 : decode cL_step 192 = .ok (.iload 5, 2) := by decide +kernel
theorem dL_step_194 : decode cL_step 194 = .ok (.iload 6, 2) := by decide +kernel
theorem dL_step_196 : decode cL_step 196 = .ok (.invokestatic 52, 3) := by decide +kernel
theorem dL_step_199 : decode cL_step 199 = .ok (.ifCond .ne 32, 3) := by decide +kernel
theorem dL_step_202 : decode cL_step 202 = .ok (.iload 6, 2) := by decide +kernel
theorem dL_step_204 : decode cL_step 204 = .ok (.ifCond .gt 23, 3) := by decide +kernel
theorem dL_step_227 : decode cL_step 227 = .ok (.iconst 1, 1) := by decide +kernel
theorem dL_step_228 : decode cL_step 228 = .ok (.goto 4, 3) := by decide +kernel
theorem dL_step_232 : decode cL_step 232 = .ok (.ireturn, 1) := by decide +kernel
theorem dL_isShown_0 : decode cL_isShown 0 = .ok (.iload_n 1, 1) := by decide +kernel
theorem dL_isShown_1 : decode cL_isShown 1 = .ok (.bipush 60, 2) := by decide +kernel
theorem dL_isShown_3 : decode cL_isShown 3 = .ok (.if_icmp .lt 20, 3) := by decide +kernel
theorem dL_isShown_6 : decode cL_isShown 6 = .ok (.aload_n 0, 1) := by decide +kernel
theorem dL_isShown_7 : decode cL_isShown 7 = .ok (.iload_n 1, 1) := by decide +kernel
theorem dL_isShown_8 : decode cL_isShown 8 = .ok (.bipush 60, 2) := by decide +kernel
theorem dL_isShown_10 : decode cL_isShown 10 = .ok (.isub, 1) := by decide +kernel
theorem dL_isShown_11 : decode cL_isShown 11 = .ok (.iconst 0, 1) := by decide +kernel
theorem dL_isShown_12 : decode cL_isShown 12 = .ok (.iconst 0, 1) := by decide +kernel
theorem dL_isShown_13 : decode cL_isShown 13 = .ok (.iconst 5, 1) := by decide +kernel
theorem dL_isShown_23 : decode cL_isShown 23 = .ok (.iconst 1, 1) := by decide +kernel
theorem dL_isShown_24 : decode cL_isShown 24 = .ok (.goto 4, 3) := by decide +kernel
theorem dL_isShown_28 : decode cL_isShown 28 = .ok (.istore_n 2, 1) := by decide +kernel
theorem dL_isShown_29 : decode cL_isShown 29 = .ok (.iconst 0, 1) := by decide +kernel
theorem dL_isShown_30 : decode cL_isShown 30 = .ok (.istore_n 3, 1) := by decide +kernel
theorem dL_isShown_31 : decode cL_isShown 31 = .ok (.iload_n 3, 1) := by decide +kernel
theorem dL_isShown_32 : decode cL_isShown 32 = .ok (.bipush 12, 2) := by decide +kernel
theorem dL_isShown_34 : decode cL_isShown 34 = .ok (.if_icmp .ge 128, 3) := by decide +kernel
theorem dL_isShown_37 : decode cL_isShown 37 = .ok (.iload_n 2, 1) := by decide +kernel
theorem dL_isShown_38 : decode cL_isShown 38 = .ok (.ifCond .eq 124, 3) := by decide +kernel
theorem dL_isShown_41 : decode cL_isShown 41 = .ok (.aload_n 0, 1) := by decide +kernel
theorem dL_isShown_42 : decode cL_isShown 42 = .ok (.iload_n 3, 1) := by decide +kernel
theorem dL_isShown_43 : decode cL_isShown 43 = .ok (.iconst 3, 1) := by decide +kernel
theorem dL_isShown_44 : decode cL_isShown 44 = .ok (.invokevirtual 84, 3) := by decide +kernel
theorem dL_isShown_47 : decode cL_isShown 47 = .ok (.istore 4, 2) := by decide +kernel
theorem dL_isShown_49 : decode cL_isShown 49 = .ok (.aload_n 0, 1) := by decide +kernel
theorem dL_isShown_50 : decode cL_isShown 50 = .ok (.iload_n 1, 1) := by decide +kernel
theorem dL_isShown_51 : decode cL_isShown 51 = .ok (.iload_n 3, 1) := by decide +kernel
theorem dL_isShown_52 : decode cL_isShown 52 = .ok (.iconst 0, 1) := by decide +kernel
theorem dL_isShown_53 : decode cL_isShown 53 = .ok (.invokevirtual 30, 3) := by decide +kernel
theorem dL_isShown_56 : decode cL_isShown 56 = .ok (.iload 4, 2) := by decide +kernel
theorem dL_isShown_58 : decode cL_isShown 58 = .ok (.if_icmp .ne 51, 3) := by decide +kernel
theorem dL_isShown_61 : decode cL_isShown 61 = .ok (.iload 4, 2) := by decide +kernel
theorem dL_isShown_63 : decode cL_isShown 63 = .ok (.bipush 40, 2) := by decide +kernel
theorem dL_isShown_65 : decode cL_isShown 65 = .ok (.if_icmp .lt 44, 3) := by decide +kernel
theorem dL_isShown_68 : decode cL_isShown 68 = .ok (.iload 4, 2) := by decide +kernel
theorem dL_isShown_70 : decode cL_isShown 70 = .ok (.bipush 120, 2) := by decide +kernel
theorem dL_isShown_72 : decode cL_isShown 72 = .ok (.if_icmp .gt 37, 3) := by decide +kernel
theorem dL_isShown_75 : decode cL_isShown 75 = .ok (.iload 4, 2) := by decide +kernel
theorem dL_isShown_77 : decode cL_isShown 77 = .ok (.bipush 20, 2) := by decide +kernel
theorem dL_isShown_79 : decode cL_isShown 79 = .ok (.irem, 1) := by decide +kernel
theorem dL_isShown_80 : decode cL_isShown 80 = .ok (.ifCond .ne 29, 3) := by decide +kernel
theorem dL_isShown_83 : decode cL_isShown 83 = .ok (.iload_n 3, 1) := by decide +kernel
theorem dL_isShown_84 : decode cL_isShown 84 = .ok (.bipush 11, 2) := by decide +kernel
theorem dL_isShown_86 : decode cL_isShown 86 = .ok (.if_icmp .eq 19, 3) := by decide +kernel
theorem dL_isShown_89 : decode cL_isShown 89 = .ok (.iload 4, 2) := by decide +kernel
theorem dL_isShown_91 : decode cL_isShown 91 = .ok (.aload_n 0, 1) := by decide +kernel
theorem dL_isShown_92 : decode cL_isShown 92 = .ok (.iload_n 3, 1) := by decide +kernel
theorem dL_isShown_93 : decode cL_isShown 93 = .ok (.iconst 1, 1) := by decide +kernel
theorem dL_isShown_94 : decode cL_isShown 94 = .ok (.iadd, 1) := by decide +kernel
theorem dL_isShown_95 : decode cL_isShown 95 = .ok (.iconst 3, 1) := by decide +kernel
theorem dL_isShown_96 : decode cL_isShown 96 = .ok (.invokevirtual 84, 3) := by decide +kernel
theorem dL_isShown_99 : decode cL_isShown 99 = .ok (.bipush 20, 2) := by decide +kernel
theorem dL_isShown_101 : decode cL_isShown 101 = .ok (.iadd, 1) := by decide +kernel
theorem dL_isShown_102 : decode cL_isShown 102 = .ok (.if_icmp .gt 7, 3) := by decide +kernel
theorem dL_isShown_105 : decode cL_isShown 105 = .ok (.iconst 1, 1) := by decide +kernel
theorem dL_isShown_106 : decode cL_isShown 106 = .ok (.goto 4, 3) := by decide +kernel
theorem dL_isShown_109 : decode cL_isShown 109 = .ok (.iconst 0, 1) := by decide +kernel
theorem dL_isShown_110 : decode cL_isShown 110 = .ok (.istore_n 2, 1) := by decide +kernel
theorem dL_isShown_111 : decode cL_isShown 111 = .ok (.iconst 0, 1) := by decide +kernel
theorem dL_isShown_112 : decode cL_isShown 112 = .ok (.istore 5, 2) := by decide +kernel
theorem dL_isShown_114 : decode cL_isShown 114 = .ok (.iload 5, 2) := by decide +kernel
theorem dL_isShown_116 : decode cL_isShown 116 = .ok (.iconst 4, 1) := by decide +kernel
theorem dL_isShown_117 : decode cL_isShown 117 = .ok (.if_icmp .ge 39, 3) := by decide +kernel
theorem dL_isShown_120 : decode cL_isShown 120 = .ok (.iload_n 2, 1) := by decide +kernel
theorem dL_isShown_121 : decode cL_isShown 121 = .ok (.ifCond .eq 27, 3) := by decide +kernel
theorem dL_isShown_124 : decode cL_isShown 124 = .ok (.aload_n 0, 1) := by decide +kernel
theorem dL_isShown_125 : decode cL_isShown 125 = .ok (.iload_n 1, 1) := by decide +kernel
theorem dL_isShown_126 : decode cL_isShown 126 = .ok (.iload_n 3, 1) := by decide +kernel
theorem dL_isShown_127 : decode cL_isShown 127 = .ok (.iconst 1, 1) := by decide +kernel
theorem dL_isShown_128 : decode cL_isShown 128 = .ok (.iload 5, 2) := by decide +kernel
theorem dL_isShown_130 : decode cL_isShown 130 = .ok (.iadd, 1) := by decide +kernel
theorem dL_isShown_131 : decode cL_isShown 131 = .ok (.invokevirtual 30, 3) := by decide +kernel
theorem dL_isShown_134 : decode cL_isShown 134 = .ok (.aload_n 0, 1) := by decide +kernel
theorem dL_isShown_135 : decode cL_isShown 135 = .ok (.iload_n 3, 1) := by decide +kernel
theorem dL_isShown_136 : decode cL_isShown 136 = .ok (.iload 5, 2) := by decide +kernel
theorem dL_isShown_138 : decode cL_isShown 138 = .ok (.invokevirtual 108, 3) := by decide +kernel
theorem dL_isShown_141 : decode cL_isShown 141 = .ok (.if_icmp .ne 7, 3) := by decide +kernel
theorem dL_isShown_144 : decode cL_isShown 144 = .ok (.iconst 1, 1) := by decide +kernel
theorem dL_isShown_145 : decode cL_isShown 145 = .ok (.goto 4, 3) := by decide +kernel
theorem dL_isShown_148 : decode cL_isShown 148 = .ok (.iconst 0, 1) := by decide +kernel
theorem dL_isShown_149 : decode cL_isShown 149 = .ok (.istore_n 2, 1) := by decide +kernel
theorem dL_isShown_150 : decode cL_isShown 150 = .ok (.iinc 5 1, 3) := by decide +kernel
theorem dL_isShown_153 : decode cL_isShown 153 = .ok (.goto (-39), 3) := by decide +kernel
theorem dL_isShown_156 : decode cL_isShown 156 = .ok (.iinc 3 1, 3) := by decide +kernel
theorem dL_isShown_159 : decode cL_isShown 159 = .ok (.goto (-128), 3) := by decide +kernel
theorem dL_isShown_162 : decode cL_isShown 162 = .ok (.iload_n 2, 1) := by decide +kernel
theorem dL_isShown_163 : decode cL_isShown 163 = .ok (.ireturn, 1) := by decide +kernel
theorem dL_isRoad_0 : decode cL_isRoad 0 = .ok (.iconst 0, 1) := by decide +kernel
theorem dL_isRoad_1 : decode cL_isRoad 1 = .ok (.istore_n 1, 1) := by decide +kernel
theorem dL_isRoad_2 : decode cL_isRoad 2 = .ok (.aload_n 0, 1) := by decide +kernel
theorem dL_isRoad_3 : decode cL_isRoad 3 = .ok (.invokevirtual 111, 3) := by decide +kernel
theorem dL_isRoad_6 : decode cL_isRoad 6 = .ok (.istore_n 2, 1) := by decide +kernel
theorem dL_isRoad_7 : decode cL_isRoad 7 = .ok (.iconst 0, 1) := by decide +kernel
theorem dL_isRoad_8 : decode cL_isRoad 8 = .ok (.istore_n 3, 1) := by decide +kernel
theorem dL_isRoad_9 : decode cL_isRoad 9 = .ok (.iload_n 3, 1) := by decide +kernel
theorem dL_isRoad_10 : decode cL_isRoad 10 = .ok (.bipush 12, 2) := by decide +kernel
theorem dL_isRoad_12 : decode cL_isRoad 12 = .ok (.if_icmp .ge 141, 3) := by decide +kernel
theorem dL_isRoad_15 : decode cL_isRoad 15 = .ok (.iload_n 2, 1) := by decide +kernel
theorem dL_isRoad_16 : decode cL_isRoad 16 = .ok (.ifCond .eq 137, 3) := by decide +kernel
theorem dL_isRoad_19 : decode cL_isRoad 19 = .ok (.iconst 0, 1) := by decide +kernel
theorem dL_isRoad_20 : decode cL_isRoad 20 = .ok (.istore 4, 2) := by decide +kernel
theorem dL_isRoad_22 : decode cL_isRoad 22 = .ok (.iconst 0, 1) := by decide +kernel
theorem dL_isRoad_23 : decode cL_isRoad 23 = .ok (.istore 5, 2) := by decide +kernel
theorem dL_isRoad_25 : decode cL_isRoad 25 = .ok (.iload 5, 2) := by decide +kernel
theorem dL_isRoad_27 : decode cL_isRoad 27 = .ok (.iconst 4, 1) := by decide +kernel
theorem dL_isRoad_28 : decode cL_isRoad 28 = .ok (.if_icmp .ge 39, 3) := by decide +kernel
theorem dL_isRoad_31 : decode cL_isRoad 31 = .ok (.aload_n 0, 1) := by decide +kernel
theorem dL_isRoad_32 : decode cL_isRoad 32 = .ok (.iload_n 3, 1) := by decide +kernel
theorem dL_isRoad_33 : decode cL_isRoad 33 = .ok (.iload 5, 2) := by decide +kernel
theorem dL_isRoad_35 : decode cL_isRoad 35 = .ok (.invokevirtual 66, 3) := by decide +kernel
theorem dL_isRoad_38 : decode cL_isRoad 38 = .ok (.istore 6, 2) := by decide +kernel
theorem dL_isRoad_40 : decode cL_isRoad 40 = .ok (.iload_n 1, 1) := by decide +kernel
theorem dL_isRoad_41 : decode cL_isRoad 41 = .ok (.iload 6, 2) := by decide +kernel
theorem dL_isRoad_43 : decode cL_isRoad 43 = .ok (.iadd, 1) := by decide +kernel
theorem dL_isRoad_44 : decode cL_isRoad 44 = .ok (.istore_n 1, 1) := by decide +kernel
theorem dL_isRoad_45 : decode cL_isRoad 45 = .ok (.iload 6, 2) := by decide +kernel
theorem dL_isRoad_47 : decode cL_isRoad 47 = .ok (.iload 4, 2) := by decide +kernel
theorem dL_isRoad_49 : decode cL_isRoad 49 = .ok (.if_icmp .le 8, 3) := by decide +kernel
theorem dL_isRoad_52 : decode cL_isRoad 52 = .ok (.iload 6, 2) := by decide +kernel
theorem dL_isRoad_54 : decode cL_isRoad 54 = .ok (.goto 5, 3) := by decide +kernel
theorem dL_isRoad_57 : decode cL_isRoad 57 = .ok (.iload 4, 2) := by decide +kernel
theorem dL_isRoad_59 : decode cL_isRoad 59 = .ok (.istore 4, 2) := by decide +kernel
theorem dL_isRoad_61 : decode cL_isRoad 61 = .ok (.iinc 5 1, 3) := by decide +kernel
theorem dL_isRoad_64 : decode cL_isRoad 64 = .ok (.goto (-39), 3) := by decide +kernel
theorem dL_isRoad_67 : decode cL_isRoad 67 = .ok (.iload 4, 2) := by decide +kernel
theorem dL_isRoad_69 : decode cL_isRoad 69 = .ok (.bipush 20, 2) := by decide +kernel
theorem dL_isRoad_71 : decode cL_isRoad 71 = .ok (.if_icmp .gt 74, 3) := by decide +kernel
theorem dL_isRoad_74 : decode cL_isRoad 74 = .ok (.aload_n 0, 1) := by decide +kernel
theorem dL_isRoad_75 : decode cL_isRoad 75 = .ok (.iload_n 3, 1) := by decide +kernel
theorem dL_isRoad_76 : decode cL_isRoad 76 = .ok (.iconst 0, 1) := by decide +kernel
theorem dL_isRoad_77 : decode cL_isRoad 77 = .ok (.invokevirtual 84, 3) := by decide +kernel
theorem dL_isRoad_80 : decode cL_isRoad 80 = .ok (.bipush 120, 2) := by decide +kernel
theorem dL_isRoad_82 : decode cL_isRoad 82 = .ok (.iconst 5, 1) := by decide +kernel
theorem dL_isRoad_83 : decode cL_isRoad 83 = .ok (.iload 4, 2) := by decide +kernel
theorem dL_isRoad_85 : decode cL_isRoad 85 = .ok (.imul, 1) := by decide +kernel
theorem dL_isRoad_86 : decode cL_isRoad 86 = .ok (.isub, 1) := by decide +kernel
theorem dL_isRoad_87 : decode cL_isRoad 87 = .ok (.if_icmp .ne 58, 3) := by decide +kernel
theorem dL_isRoad_90 : decode cL_isRoad 90 = .ok (.aload_n 0, 1) := by decide +kernel
theorem dL_isRoad_91 : decode cL_isRoad 91 = .ok (.iload_n 3, 1) := by decide +kernel
theorem dL_isRoad_92 : decode cL_isRoad 92 = .ok (.iconst 4, 1) := by decide +kernel
theorem dL_isRoad_93 : decode cL_isRoad 93 = .ok (.invokevirtual 84, 3) := by decide +kernel
theorem dL_isRoad_96 : decode cL_isRoad 96 = .ok (.ifCond .lt 49, 3) := by decide +kernel
theorem dL_isRoad_99 : decode cL_isRoad 99 = .ok (.aload_n 0, 1) := by decide +kernel
theorem dL_isRoad_100 : decode cL_isRoad 100 = .ok (.iload_n 3, 1) := by decide +kernel
theorem dL_isRoad_101 : decode cL_isRoad 101 = .ok (.iconst 1, 1) := by decide +kernel
theorem dL_isRoad_102 : decode cL_isRoad 102 = .ok (.invokevirtual 84, 3) := by decide +kernel
theorem dL_isRoad_105 : decode cL_isRoad 105 = .ok (.iconst (-1), 1) := by decide +kernel
theorem dL_isRoad_106 : decode cL_isRoad 106 = .ok (.if_icmp .lt 39, 3) := by decide +kernel
theorem dL_isRoad_109 : decode cL_isRoad 109 = .ok (.aload_n 0, 1) := by decide +kernel
theorem dL_isRoad_110 : decode cL_isRoad 110 = .ok (.iload_n 3, 1) := by decide +kernel
theorem dL_isRoad_111 : decode cL_isRoad 111 = .ok (.iconst 1, 1) := by decide +kernel
theorem dL_isRoad_112 : decode cL_isRoad 112 = .ok (.invokevirtual 84, 3) := by decide +kernel
theorem dL_isRoad_115 : decode cL_isRoad 115 = .ok (.bipush 120, 2) := by decide +kernel
theorem dL_isRoad_117 : decode cL_isRoad 117 = .ok (.if_icmp .gt 28, 3) := by decide +kernel
theorem dL_isRoad_120 : decode cL_isRoad 120 = .ok (.aload_n 0, 1) := by decide +kernel
theorem dL_isRoad_121 : decode cL_isRoad 121 = .ok (.iload_n 3, 1) := by decide +kernel
theorem dL_isRoad_122 : decode cL_isRoad 122 = .ok (.iconst 2, 1) := by decide +kernel
theorem dL_isRoad_123 : decode cL_isRoad 123 = .ok (.invokevirtual 84, 3) := by decide +kernel
theorem dL_isRoad_126 : decode cL_isRoad 126 = .ok (.iconst (-1), 1) := by decide +kernel
theorem dL_isRoad_127 : decode cL_isRoad 127 = .ok (.if_icmp .lt 18, 3) := by decide +kernel
theorem dL_isRoad_130 : decode cL_isRoad 130 = .ok (.aload_n 0, 1) := by decide +kernel
theorem dL_isRoad_131 : decode cL_isRoad 131 = .ok (.iload_n 3, 1) := by decide +kernel
theorem dL_isRoad_132 : decode cL_isRoad 132 = .ok (.iconst 2, 1) := by decide +kernel
theorem dL_isRoad_133 : decode cL_isRoad 133 = .ok (.invokevirtual 84, 3) := by decide +kernel
theorem dL_isRoad_136 : decode cL_isRoad 136 = .ok (.bipush 120, 2) := by decide +kernel
theorem dL_isRoad_138 : decode cL_isRoad 138 = .ok (.if_icmp .gt 7, 3) := by decide +kernel
theorem dL_isRoad_141 : decode cL_isRoad 141 = .ok (.iconst 1, 1) := by decide +kernel
theorem dL_isRoad_142 : decode cL_isRoad 142 = .ok (.goto 4, 3) := by decide +kernel
theorem dL_isRoad_145 : decode cL_isRoad 145 = .ok (.iconst 0, 1) := by decide +kernel
theorem dL_isRoad_146 : decode cL_isRoad 146 = .ok (.istore_n 2, 1) := by decide +kernel
theorem dL_isRoad_147 : decode cL_isRoad 147 = .ok (.iinc 3 1, 3) := by decide +kernel
theorem dL_isRoad_150 : decode cL_isRoad 150 = .ok (.goto (-141), 3) := by decide +kernel
theorem dL_isRoad_153 : decode cL_isRoad 153 = .ok (.iload_n 2, 1) := by decide +kernel
theorem dL_isRoad_154 : decode cL_isRoad 154 = .ok (.ifCond .eq 16, 3) := by decide +kernel
theorem dL_isRoad_157 : decode cL_isRoad 157 = .ok (.iload_n 1, 1) := by decide +kernel
theorem dL_isRoad_158 : decode cL_isRoad 158 = .ok (.aload_n 0, 1) := by decide +kernel
theorem dL_isRoad_159 : decode cL_isRoad 159 = .ok (.iconst 1, 1) := by decide +kernel
theorem dL_isRoad_160 : decode cL_isRoad 160 = .ok (.invokevirtual 133, 3) := by decide +kernel
theorem dL_isRoad_163 : decode cL_isRoad 163 = .ok (.if_icmp .ne 7, 3) := by decide +kernel
theorem dL_isRoad_166 : decode cL_isRoad 166 = .ok (.iconst 1, 1) := by decide +kernel
theorem dL_isRoad_167 : decode cL_isRoad 167 = .ok (.goto 4, 3) := by decide +kernel
theorem dL_isRoad_170 : decode cL_isRoad 170 = .ok (.iconst 0, 1) := by decide +kernel
theorem dL_isRoad_171 : decode cL_isRoad 171 = .ok (.ireturn, 1) := by decide +kernel
theorem dL_law_0 : decode cL_law 0 = .ok (.new 11, 3) := by decide +kernel
theorem dL_law_3 : decode cL_law 3 = .ok (.dup, 1) := by decide +kernel
theorem dL_law_4 : decode cL_law 4 = .ok (.invokespecial 147, 3) := by decide +kernel
theorem dL_law_7 : decode cL_law 7 = .ok (.astore_n 1, 1) := by decide +kernel
theorem dL_law_8 : decode cL_law 8 = .ok (.iconst 4, 1) := by decide +kernel
theorem dL_law_9 : decode cL_law 9 = .ok (.newarray .int, 2) := by decide +kernel
theorem dL_law_11 : decode cL_law 11 = .ok (.astore_n 2, 1) := by decide +kernel
theorem dL_law_12 : decode cL_law 12 = .ok (.aload_n 1, 1) := by decide +kernel
theorem dL_law_13 : decode cL_law 13 = .ok (.invokevirtual 111, 3) := by decide +kernel
theorem dL_law_16 : decode cL_law 16 = .ok (.ifCond .eq 55, 3) := by decide +kernel
theorem dL_law_19 : decode cL_law 19 = .ok (.aload_n 1, 1) := by decide +kernel
theorem dL_law_20 : decode cL_law 20 = .ok (.invokevirtual 130, 3) := by decide +kernel
theorem dL_law_23 : decode cL_law 23 = .ok (.iconst (-1), 1) := by decide +kernel
theorem dL_law_24 : decode cL_law 24 = .ok (.if_icmp .ne 47, 3) := by decide +kernel
theorem dL_law_27 : decode cL_law 27 = .ok (.aload_n 1, 1) := by decide +kernel
theorem dL_law_28 : decode cL_law 28 = .ok (.iconst 0, 1) := by decide +kernel
theorem dL_law_29 : decode cL_law 29 = .ok (.iconst 0, 1) := by decide +kernel
theorem dL_law_30 : decode cL_law 30 = .ok (.invokevirtual 108, 3) := by decide +kernel
theorem dL_law_33 : decode cL_law 33 = .ok (.iconst 2, 1) := by decide +kernel
theorem dL_law_34 : decode cL_law 34 = .ok (.if_icmp .ne 37, 3) := by decide +kernel
theorem dL_law_37 : decode cL_law 37 = .ok (.aload_n 1, 1) := by decide +kernel
theorem dL_law_38 : decode cL_law 38 = .ok (.bipush 11, 2) := by decide +kernel
theorem dL_law_40 : decode cL_law 40 = .ok (.iconst 3, 1) := by decide +kernel
theorem dL_law_41 : decode cL_law 41 = .ok (.invokevirtual 108, 3) := by decide +kernel
theorem dL_law_44 : decode cL_law 44 = .ok (.ifCond .ne 27, 3) := by decide +kernel
theorem dL_law_47 : decode cL_law 47 = .ok (.aload_n 1, 1) := by decide +kernel
theorem dL_law_48 : decode cL_law 48 = .ok (.iconst 0, 1) := by decide +kernel
theorem dL_law_49 : decode cL_law 49 = .ok (.iconst 5, 1) := by decide +kernel
theorem dL_law_50 : decode cL_law 50 = .ok (.iconst 0, 1) := by decide +kernel
theorem dL_law_51 : decode cL_law 51 = .ok (.invokevirtual 30, 3) := by decide +kernel
theorem dL_law_54 : decode cL_law 54 = .ok (.bipush 120, 2) := by decide +kernel
theorem dL_law_56 : decode cL_law 56 = .ok (.if_icmp .ne 15, 3) := by decide +kernel
theorem dL_law_59 : decode cL_law 59 = .ok (.aload_n 1, 1) := by decide +kernel
theorem dL_law_60 : decode cL_law 60 = .ok (.iconst 0, 1) := by decide +kernel
theorem dL_law_61 : decode cL_law 61 = .ok (.invokestatic 143, 3) := by decide +kernel
theorem dL_law_64 : decode cL_law 64 = .ok (.ifCond .eq 7, 3) := by decide +kernel
theorem dL_law_67 : decode cL_law 67 = .ok (.iconst 1, 1) := by decide +kernel
theorem dL_law_68 : decode cL_law 68 = .ok (.goto 4, 3) := by decide +kernel
theorem dL_law_72 : decode cL_law 72 = .ok (.istore_n 3, 1) := by decide +kernel
theorem dL_law_73 : decode cL_law 73 = .ok (.aload_n 0, 1) := by decide +kernel
theorem dL_law_74 : decode cL_law 74 = .ok (.arraylength, 1) := by decide +kernel
theorem dL_law_75 : decode cL_law 75 = .ok (.iconst 3, 1) := by decide +kernel
theorem dL_law_76 : decode cL_law 76 = .ok (.idiv, 1) := by decide +kernel
theorem dL_law_77 : decode cL_law 77 = .ok (.bipush 70, 2) := by decide +kernel
theorem dL_law_79 : decode cL_law 79 = .ok (.if_icmp .le 8, 3) := by decide +kernel
theorem dL_law_87 : decode cL_law 87 = .ok (.aload_n 0, 1) := by decide +kernel
theorem dL_law_88 : decode cL_law 88 = .ok (.arraylength, 1) := by decide +kernel
theorem dL_law_89 : decode cL_law 89 = .ok (.iconst 3, 1) := by decide +kernel
theorem dL_law_90 : decode cL_law 90 = .ok (.idiv, 1) := by decide +kernel
theorem dL_law_91 : decode cL_law 91 = .ok (.istore 4, 2) := by decide +kernel
theorem dL_law_93 : decode cL_law 93 = .ok (.iconst 0, 1) := by decide +kernel
theorem dL_law_94 : decode cL_law 94 = .ok (.istore 5, 2) := by decide +kernel
theorem dL_law_96 : decode cL_law 96 = .ok (.iload 5, 2) := by decide +kernel
theorem dL_law_98 : decode cL_law 98 = .ok (.iload 4, 2) := by decide +kernel
theorem dL_law_100 : decode cL_law 100 = .ok (.if_icmp .ge 62, 3) := by decide +kernel
theorem dL_law_103 : decode cL_law 103 = .ok (.iload_n 3, 1) := by decide +kernel
theorem dL_law_104 : decode cL_law 104 = .ok (.ifCond .eq 58, 3) := by decide +kernel
theorem dL_law_107 : decode cL_law 107 = .ok (.aload_n 1, 1) := by decide +kernel
theorem dL_law_108 : decode cL_law 108 = .ok (.aload_n 2, 1) := by decide +kernel
theorem dL_law_109 : decode cL_law 109 = .ok (.aload_n 0, 1) := by decide +kernel
theorem dL_law_110 : decode cL_law 110 = .ok (.iconst 3, 1) := by decide +kernel
theorem dL_law_111 : decode cL_law 111 = .ok (.iload 5, 2) := by decide +kernel
theorem dL_law_113 : decode cL_law 113 = .ok (.imul, 1) := by decide +kernel
theorem dL_law_114 : decode cL_law 114 = .ok (.invokestatic 148, 3) := by decide +kernel
theorem dL_law_117 : decode cL_law 117 = .ok (.aload_n 0, 1) := by decide +kernel
theorem dL_law_118 : decode cL_law 118 = .ok (.iconst 3, 1) := by decide +kernel
theorem dL_law_119 : decode cL_law 119 = .ok (.iload 5, 2) := by decide +kernel
theorem dL_law_121 : decode cL_law 121 = .ok (.imul, 1) := by decide +kernel
theorem dL_law_122 : decode cL_law 122 = .ok (.iconst 1, 1) := by decide +kernel
theorem dL_law_123 : decode cL_law 123 = .ok (.iadd, 1) := by decide +kernel
theorem dL_law_124 : decode cL_law 124 = .ok (.invokestatic 148, 3) := by decide +kernel
theorem dL_law_127 : decode cL_law 127 = .ok (.aload_n 0, 1) := by decide +kernel
theorem dL_law_128 : decode cL_law 128 = .ok (.iconst 3, 1) := by decide +kernel
theorem dL_law_129 : decode cL_law 129 = .ok (.iload 5, 2) := by decide +kernel
theorem dL_law_131 : decode cL_law 131 = .ok (.imul, 1) := by decide +kernel
theorem dL_law_132 : decode cL_law 132 = .ok (.iconst 2, 1) := by decide +kernel
theorem dL_law_133 : decode cL_law 133 = .ok (.iadd, 1) := by decide +kernel
theorem dL_law_134 : decode cL_law 134 = .ok (.invokestatic 148, 3) := by decide +kernel
theorem dL_law_137 : decode cL_law 137 = .ok (.invokestatic 152, 3) := by decide +kernel
theorem dL_law_140 : decode cL_law 140 = .ok (.ifCond .eq 14, 3) := by decide +kernel
theorem dL_law_143 : decode cL_law 143 = .ok (.aload_n 1, 1) := by decide +kernel
theorem dL_law_144 : decode cL_law 144 = .ok (.invokestatic 156, 3) := by decide +kernel
theorem dL_law_147 : decode cL_law 147 = .ok (.ifCond .eq 7, 3) := by decide +kernel
theorem dL_law_150 : decode cL_law 150 = .ok (.iconst 1, 1) := by decide +kernel
theorem dL_law_151 : decode cL_law 151 = .ok (.goto 4, 3) := by decide +kernel
theorem dL_law_155 : decode cL_law 155 = .ok (.istore_n 3, 1) := by decide +kernel
theorem dL_law_156 : decode cL_law 156 = .ok (.iinc 5 1, 3) := by decide +kernel
theorem dL_law_159 : decode cL_law 159 = .ok (.goto (-63), 3) := by decide +kernel
theorem dL_law_162 : decode cL_law 162 = .ok (.iload_n 3, 1) := by decide +kernel
theorem dL_law_163 : decode cL_law 163 = .ok (.ireturn, 1) := by decide +kernel
end
section
/-! what all methods' walks share: how a pure function's answer is taken apart, the world's contract, calls -/
def FU : Nat := 1000
def g_let {α β : Type} (x : α) (f : α → β) : β := f x
def g_bind {α β : Type} (x : Option α) (f : α → Option β) : Option β := match x with
  | none => none
  | some y => f y
def g_in {α : Type} (i : Int32) (n : Nat) (a : Option α) : Option α := if i < 0 ∨ n ≤ i.toNatClampNeg then none else a
def g_nz {α : Type} (v : Int32) (a : Option α) : Option α := if v = 0 then none else a
def g_bo {α : Type} (v : Int32) (a : Option α) : Option α := if v &&& 1 = v then a else none
/-- an answer of a method that may throw: what it answers, or the exception's class -/
abbrev g_X : Type := Int32 ⊕ String
def g_xb {σ τ : Type} (x : Option (g_X × σ)) (up : σ → τ) (f : Int32 → σ → Option (g_X × τ)) : Option (g_X × τ) := match x with
  | none => none
  | some (.inl r, w) => f r w
  | some (.inr E, w) => some (.inr E, up w)
theorem gx_t {α : Type} {c : Prop} [Decidable c] {a b x : α} (hc : c) (h : (if c then a else b) = x) : a = x := by rw [if_pos hc] at h; exact h
theorem gx_f {α : Type} {c : Prop} [Decidable c] {a b x : α} (hc : ¬ c) (h : (if c then a else b) = x) : b = x := by rw [if_neg hc] at h; exact h
theorem gx_let {α β : Type} {x : α} {f : α → β} {r : β} (h : g_let x f = r) : ∃ y, x = y ∧ f y = r := ⟨x, rfl, h⟩
theorem gx_bind {α β : Type} {x : Option α} {f : α → Option β} {r : β} (h : g_bind x f = some r) : ∃ y, x = some y ∧ f y = some r := by
  cases x with
  | none => cases h
  | some y => exact ⟨y, rfl, h⟩
theorem gx_in {α : Type} {i : Int32} {n : Nat} {a : Option α} {r : α} (h : g_in i n a = some r) : vp_in i n ∧ a = some r := by
  unfold g_in at h
  split at h
  · cases h
  · rename_i q
    exact ⟨q, h⟩
theorem gx_nz {α : Type} {v : Int32} {a : Option α} {r : α} (h : g_nz v a = some r) : ¬ v = 0 ∧ a = some r := by
  unfold g_nz at h
  split at h
  · cases h
  · rename_i q
    exact ⟨q, h⟩
theorem gx_bo {α : Type} {v : Int32} {a : Option α} {r : α} (h : g_bo v a = some r) : narrow .boolean (.int v) = .int v ∧ a = some r := by
  unfold g_bo at h
  split at h
  · rename_i q
    exact ⟨congrArg Value.int q, h⟩
  · cases h
theorem gx_xr {σ τ : Type} {x : Option (g_X × σ)} {up : σ → τ} {f : Int32 → σ → Option (g_X × τ)} {r : Int32} {w' : τ} (h : g_xb x up f = some (.inl r, w')) : ∃ r1 w1, x = some (.inl r1, w1) ∧ f r1 w1 = some (.inl r, w') := by
  unfold g_xb at h
  split at h
  · cases h
  · exact ⟨_, _, rfl, h⟩
  · cases h
theorem gx_xx {σ τ : Type} {x : Option (g_X × σ)} {up : σ → τ} {f : Int32 → σ → Option (g_X × τ)} {E : String} {w' : τ} (h : g_xb x up f = some (.inr E, w')) : (∃ r1 w1, x = some (.inl r1, w1) ∧ f r1 w1 = some (.inr E, w')) ∨ (∃ w1, x = some (.inr E, w1) ∧ up w1 = w') := by
  unfold g_xb at h
  split at h
  · cases h
  · exact Or.inl ⟨_, _, rfl, h⟩
  · cases h
    exact Or.inr ⟨_, rfl, rfl⟩
theorem gx_sw0 {x : Int32} {n : Int} {z : Int32} (hz : z.toInt = n) (h : ¬ x = z) : x.toInt ≠ n := fun e => h (Int32.toInt_inj.mp (e.trans hz.symm))
/-- the static tables -/
def tioF (j : Nat) : Int32 := if j = 0 then 0 else if j = 1 then -1 else 1
def tinF (j : Nat) : Int32 := if j = 0 then -1 else if j = 1 then 1 else 0
def wlF (j : Nat) : Int32 := if j = 0 then 120 else if j = 1 then 80 else if j = 2 then 60 else 40
def nestL : List (String × Nat × MethodName) := [("RedcrossGantry", 15, yX8_init), ("RedcrossGantry", 22, yX1_init), ("RedcrossGantry", 50, yX2_init), ("RedcrossGantry", 57, yX4_init), ("RedcrossGantry", 64, yX0_init), ("RedcrossGantry", 71, yX5_init), ("RedcrossGantry$Shoulder", 23, yX9_placeOf), ("RedcrossGantry$Incidents", 25, yX9_isWithin), ("RedcrossGantry$Bookings", 31, yX9_isWithin), ("RedcrossGantry$Bookings", 49, yX9_placeOf), ("RedcrossGantry$LaneSigns", 39, yX9_isWithin), ("RedcrossGantry$Proofs", 19, yX9_placeOf), ("RedcrossGantry$Detectors", 24, yX9_isWithin), ("RedcrossGantry$Traffic", 39, yX9_isWithin), ("RedcrossGantry$Traffic", 58, yX9_placeOf), ("RedcrossGantry$SpeedSigns", 44, yX9_isWithin), ("RedcrossGantry$Shoulder", 19, yX9_isWithin), ("RedcrossGantry$Proofs", 15, yX9_isWithin)]
def declL : List MethodName := [⟨"java/lang/RuntimeException", "<init>", "(Ljava/lang/String;)V"⟩, ⟨"java/lang/Exception", "<init>", "(Ljava/lang/String;)V"⟩, ⟨"java/lang/Throwable", "<init>", "(Ljava/lang/String;)V"⟩]
def castL : List String := ["java/lang/IndexOutOfBoundsException", "java/lang/IllegalArgumentException", "java/lang/IllegalStateException"]
def ncastL : List (String × String) := []
theorem cNw_warmD {y : MethodName} {s U : State} (hW : s.WarmedH U.vm) (hZ : va_Nw (.declares y) s) : va_Nw (.declares y) U := va_tabs rfl (rfl : (s.setVm U.vm).vm = U.vm) (by rw [Cond.declares_setVm hW.alike]; exact hZ)
/-- what exceptions need of the tables, beside the words -/
def cxt (U : State) : Prop := (∀ y ∈ declL, va_Nw (.declares y) U) ∧ (∀ E ∈ castL, va_Nw (.castable E E) U) ∧ (∀ q ∈ ncastL, va_Nc q.1 q.2 U)
theorem cxt.warm {s U : State} (hW : s.WarmedH U.vm) (h : cxt s) : cxt U := ⟨fun y hy => cNw_warmD hW (h.1 y hy), fun E hE => va_Nw.warmC hW (h.2.1 E hE), fun q hq => (h.2.2 q hq).moved hW.alike⟩
theorem cxt.same {s U : State} (hv : s.vm = U.vm) (h : cxt s) : cxt U := ⟨fun y hy => va_Nw.same rfl hv (h.1 y hy), fun E hE => va_Nw.same rfl hv (h.2.1 E hE), fun q hq => (h.2.2 q hq).moved (by rw [hv]; exact Vm.Alike.refl _)⟩
/-- what stays in every run, beside a method's world: static fields, their tables, texts, links between nest mates -/
def cst (A : Nat → Prop) (U : State) : Prop :=
  (∀ q ∈ nestL, va_Nw (.methodLinkNest q.1 q.2.1 q.2.2 "RedcrossGantry") U) ∧
  (∃ t : Nat, va_Z "RedcrossGantry$Traffic" "TRIES_IF_OPEN" "[I" (.ref t) A U U.heap ∧ va_T .int t 3 (fun j => .int (tioF j)) A U U.heap) ∧
  (∃ t : Nat, va_Z "RedcrossGantry$Traffic" "TRIES_IF_NOT_OPEN" "[I" (.ref t) A U U.heap ∧ va_T .int t 3 (fun j => .int (tinF j)) A U U.heap) ∧
  (∃ t : Nat, va_Z "RedcrossGantry$SpeedSigns" "WEATHER_LETS" "[I" (.ref t) A U U.heap ∧ va_T .int t 4 (fun j => .int (wlF j)) A U U.heap) ∧
  (vx_Zq Bundle.tN "UNASSIGNED_STACK" Bundle.steD A U U.heap ∧ vx_Zq Bundle.tN "SUPPRESSED_SENTINEL" Bundle.listD A U U.heap) ∧
  (∃ a : Nat, vk_R RX9 260 "there is none of that number" a U) ∧ (∃ a : Nat, vk_R RX9 267 "an argument is out of its range" a U) ∧ (∃ a : Nat, vk_R RX9 272 "that cannot be by now" a U) ∧ cxt U
theorem cst.call {A A1 : Nat → Prop} {s U : State} {H : Heap} {locs : List Loc} (h : cst A s) (hS : va_S A s.heap H locs) (hAA : ∀ q, A1 q → A q) (hU : U.heap = H) (hW : s.WarmedH U.vm) : cst A1 U := by
  subst hU
  obtain ⟨h1, ⟨t1, a1, b1⟩, ⟨t2, a2, b2⟩, ⟨t3, a3, b3⟩, ⟨z1, z2⟩, ⟨k1, r1⟩, ⟨k2, r2⟩, ⟨k3, r3⟩, hcx⟩ := h
  exact ⟨fun q hq => va_Nw.warmM hW (h1 q hq),
    ⟨t1, ((a1.kept hS.2.1).moved hW.alike).narrow hAA, ((b1.kept hS.2.1).moved hW.alike).narrow hAA⟩,
    ⟨t2, ((a2.kept hS.2.1).moved hW.alike).narrow hAA, ((b2.kept hS.2.1).moved hW.alike).narrow hAA⟩,
    ⟨t3, ((a3.kept hS.2.1).moved hW.alike).narrow hAA, ((b3.kept hS.2.1).moved hW.alike).narrow hAA⟩,
    ⟨((z1.kept hS.2.1).moved hW.alike).narrow hAA, ((z2.kept hS.2.1).moved hW.alike).narrow hAA⟩,
    ⟨k1, vk_R.warm hW r1⟩, ⟨k2, vk_R.warm hW r2⟩, ⟨k3, vk_R.warm hW r3⟩, hcx.warm hW⟩
theorem cst.blind {A : Nat → Prop} {U : State} {g : JFrame} {mk : MethodId} {a : Array Value} (h : cst A U) : cst A (U.calling g mk a) := by
  obtain ⟨h1, ⟨t1, a1, b1⟩, ⟨t2, a2, b2⟩, ⟨t3, a3, b3⟩, ⟨z1, z2⟩, ⟨k1, r1⟩, ⟨k2, r2⟩, ⟨k3, r3⟩, hcx⟩ := h
  have e : U.vm.Alike (U.calling g mk a).vm := Vm.Alike.refl U.vm
  exact ⟨fun q hq => va_Nw.same rfl rfl (h1 q hq), ⟨t1, a1.moved e, b1.moved e⟩, ⟨t2, a2.moved e, b2.moved e⟩, ⟨t3, a3.moved e, b3.moved e⟩, ⟨z1.moved e, z2.moved e⟩, ⟨k1, vk_R.same rfl r1⟩, ⟨k2, vk_R.same rfl r2⟩, ⟨k3, vk_R.same rfl r3⟩, hcx.same rfl⟩
/-- a method's start: its world's cells, apart from each other; the heap's size; what stays -/
def cB (D : va_G) (tys : List (ClassId × FieldType)) (ws : va_W) (sz : Nat) (U : State) : Prop := U.heap.size = sz ∧ va_P D vwCl ws U.heap ∧ va_K D vwCl tys U ∧ va_D (fun _ => True) ws ∧ cst (va_A ws sz) U
def cE (D : va_G) (tys : List (ClassId × FieldType)) (ws : va_W) (A : Nat → Prop) (t : State) : Prop := va_P D vwCl ws t.heap ∧ va_K D vwCl tys t ∧ va_D A ws
theorem cB_blind {D : va_G} {tys : List (ClassId × FieldType)} {ws : va_W} {sz : Nat} {av : List Value} : FrameBlind (va_Pc av (cB D tys ws sz)) := fun a U g mk q => by
  obtain ⟨q0, q1, qP, qK, qD, qZ⟩ := q
  exact ⟨q0, q1, qP, va_K.moved (u := U) (U := U.calling g mk a) (Vm.Alike.refl U.vm) qK, qD, qZ.blind⟩
/-- a method that answers an int, and makes nothing -/
def MI (l : Launch) (y : MethodName) (wds : List Cond) (rm : Room) (D : va_G) (tys : List (ClassId × FieldType)) (ws ws' : va_W) (av : List Value) (res : Int32) : Prop :=
  ∀ sz : Nat, Met l y wds rm (va_Pc av (cB D tys ws sz)) (va_Qi (S := Unit) (fun r _ => res = r) (fun _ t => cE D tys ws' (va_A ws sz) t) (va_A ws sz)) 0 0 (va_A ws sz)
def MV (l : Launch) (y : MethodName) (wds : List Cond) (rm : Room) (D : va_G) (tys : List (ClassId × FieldType)) (ws ws' : va_W) (av : List Value) : Prop :=
  ∀ sz : Nat, Met l y wds rm (va_Pc av (cB D tys ws sz)) (va_Qv (S := Unit) (fun _ => True) (fun _ t => cE D tys ws' (va_A ws sz) t) (va_A ws sz)) 0 0 (va_A ws sz)
/-- a method that throws: one new object of six slots -/
abbrev cXC (D : va_G) (tys : List (ClassId × FieldType)) (ws ws' : va_W) (E : String) (sz : Nat) : String → State → State → Prop := vx_X (S := Unit) (fun _ => True) (fun E' _ t => (E = E' ∧ cE D tys ws' (va_A ws sz) t) ∧ sz + 1 ≤ t.heap.size) (va_A ws sz)
def XI (l : Launch) (y : MethodName) (wds : List Cond) (rm : Room) (D : va_G) (tys : List (ClassId × FieldType)) (ws ws' : va_W) (av : List Value) (E : String) : Prop :=
  ∀ sz : Nat, vx_Met l y wds rm (va_Pc av (cB D tys ws sz)) (va_Qi (S := Unit) (fun _ _ => False) (fun _ _ => True) (va_A ws sz)) (cXC D tys ws ws' E sz) 1 6 (va_A ws sz)
def XV (l : Launch) (y : MethodName) (wds : List Cond) (rm : Room) (D : va_G) (tys : List (ClassId × FieldType)) (ws ws' : va_W) (av : List Value) (E : String) : Prop :=
  ∀ sz : Nat, vx_Met l y wds rm (va_Pc av (cB D tys ws sz)) (va_Qv (S := Unit) (fun _ => False) (fun _ _ => True) (va_A ws sz)) (cXC D tys ws ws' E sz) 1 6 (va_A ws sz)
/-- Met out of a walk, for a method by whose name no table has a row of its own (Math.floorMod) -/
theorem cc_ofWF {l : Launch} {y : MethodName} {ws ws' : List Cond} {rm : Room} {Pc : Array Value → State → Prop} {Qc : Array Value → State → Outcome → State → Prop} {mc ms : Nat} {free : Addr → Prop} {cc : ByteArray} {maxL : Nat} {ret : Option FieldType}
    (hy : plainFor y = true) (hw : ws = Cond.code y cc maxL ret :: ws')
    (body : ∀ p e s m args below meth c s₁, BodyLoose p l y (headSpec ws rm) cc maxL ret e s m args below meth c s₁ → c.maxLocals = maxL → Pc args s →
      W p l e (headSpec ws rm).room s m args below meth c s.heap [] 0 0 (MQ below Qc args s mc ms free) (entryFrame m args maxL)) : Met l y ws rm Pc Qc mc ms free := by
  refine MetFree.of_bodySF (code := cc) (maxLocals := maxL) (ret := ret) hy ?_ ?_
  · intro args s m h hn
    obtain ⟨meth, c, h1, h2, h3, h4, h5, h6, -, -⟩ := Cond.code_spec hn (atoms_spec (ws := ws) h _ (by rw [hw]; exact List.mem_cons_self))
    exact ⟨meth, c, h1, h2, h3, h4, h5, h6⟩
  · intro p e s m args below meth c s₁ B hml hP _
    have hh0 : s₁.heap = s.heap := by rw [B.state]; rfl
    obtain ⟨t, a1, o, b1, b2, b3⟩ := body p e s m args below meth c s₁ B hml hP s₁ hh0 (Stand.of_body B)
    exact ⟨t, o, a1, b1, b2, ⟨b3.1, b3.2⟩⟩
section CBASE
variable {p : Program} {l : Launch} {e : Env} {R : Room} {s : State} {m : MethodId} {args : Array Value} {below : List Frame} {meth : Method} {c : Code} {H : Heap} {locs : List Loc} {cells slots : Nat} {Q : State → Prop}
variable {cc : ByteArray} {pc nL index n maxL : Nat} {ls : Array Slot} {rest st0 : List Value} {D : va_G} {tys : List (ClassId × FieldType)} {ws ws' : va_W} {A0 : Nat → Prop} {y : MethodName} {bytes : ByteArray} {ret : Option FieldType} {wds : List Cond} {rm : Room} {own C host : String} {b : Nat} {As : List Value} {res : Int32}
theorem w_gen {Q0 : State → Prop} {g : JFrame} (k : ∀ Q : State → Prop, Q = Q0 → W p l e R s m args below meth c H locs cells slots Q g) : W p l e R s m args below meth c H locs cells slots Q0 g := k Q0 rfl
theorem lv_topn {x y : Int32} (h : x = y) (k : W p l e R s m args below meth c H locs cells slots Q (F0 m pc ls (.int y :: rest))) : W p l e R s m args below meth c H locs cells slots Q (F0 m pc ls (.int x :: rest)) := by rw [h]; exact k
theorem cF {H0 : Heap} (hD : va_D A0 ws) (hS : va_S A0 H0 H locs) (hA : ∀ q : Nat, H0.size ≤ q → A0 q) : ∀ q, va_A ws H.size q → A0 q := fun q h => h.elim (fun ⟨k, e, h⟩ => hD.2 k _ h) (fun h => hA q (Nat.le_trans hS.1 h))
theorem cPre (hK : va_K D vwCl tys s) (hP : va_P D vwCl ws H) (hD : va_D A0 ws) (hS : va_S A0 s.heap H locs) (hA : ∀ q : Nat, s.heap.size ≤ q → A0 q) (hZ : cst A0 s) (av : List Value) : ∀ U : State, U.heap = H → s.WarmedH U.vm → va_Pc av (cB D tys ws H.size) av.toArray U := fun U hU hW =>
  ⟨rfl, by rw [hU], by rw [hU]; exact hP, va_K.moved hW.alike hK, hD.weaken (fun _ _ _ _ => trivial), hZ.call hS (cF hD hS hA) hU hW⟩
/-- behind a call of a method that answers an int -/
theorem cBackI {mc ms : Nat} (hr : va_Run p l e R s m args below meth c H locs cells slots mc ms (F0 m pc ls st0) rest (va_Qi (S := Unit) (fun r _ => res = r) (fun _ t => cE D tys ws' (va_A ws H.size) t) (va_A ws H.size) As.toArray) (va_A ws H.size)) (hD : va_D A0 ws) (hS : va_S A0 s.heap H locs) (hA : ∀ q : Nat, s.heap.size ≤ q → A0 q)
    (kk : ∀ (H1 : Heap) (locs1 : List Loc), va_P D vwCl ws' H1 → va_D A0 ws' → va_S A0 s.heap H1 locs1 → W p l e R s m args below meth c H1 locs1 (cells + mc) (slots + ms) Q (F0 m (pc + 3) ls (.int res :: rest))) : W p l e R s m args below meth c H locs cells slots Q (F0 m pc ls st0) := by
  have hF := cF hD hS hA
  refine va_calli hr hS (fun q _ h => hF q h) hF (fun r u t H1 locs1 ht hvm hpost hB hz1 hk1 hS1 => ?_)
  obtain ⟨hP1, hK1, hD1⟩ := hB
  rw [ht] at hP1
  subst hpost
  exact kk H1 locs1 hP1 (hD1.weaken (fun _ q _ h => hF q.1 h)) hS1
theorem cBackV {mc ms : Nat} (hr : va_Run p l e R s m args below meth c H locs cells slots mc ms (F0 m pc ls st0) rest (va_Qv (S := Unit) (fun _ => True) (fun _ t => cE D tys ws' (va_A ws H.size) t) (va_A ws H.size) As.toArray) (va_A ws H.size)) (hD : va_D A0 ws) (hS : va_S A0 s.heap H locs) (hA : ∀ q : Nat, s.heap.size ≤ q → A0 q)
    (kk : ∀ (H1 : Heap) (locs1 : List Loc), va_P D vwCl ws' H1 → va_D A0 ws' → va_S A0 s.heap H1 locs1 → W p l e R s m args below meth c H1 locs1 (cells + mc) (slots + ms) Q (F0 m (pc + 3) ls rest)) : W p l e R s m args below meth c H locs cells slots Q (F0 m pc ls st0) := by
  have hF := cF hD hS hA
  refine va_callv hr hS (fun q _ h => hF q h) hF (fun u t H1 locs1 ht hvm hpost hB hz1 hk1 hS1 => ?_)
  obtain ⟨hP1, hK1, hD1⟩ := hB
  rw [ht] at hP1
  exact kk H1 locs1 hP1 (hD1.weaken (fun _ q _ h => hF q.1 h)) hS1
theorem cc_iV (S : CallFix p m c cc nL s args Wall own) (hM : MI l y wds rm D tys ws ws' (.ref b :: As) res) (cw : CallW R s args own C index y bytes maxL ret wds rm 0 0 n) (hK : va_K D vwCl tys s) (hP : va_P D vwCl ws H) (hD : va_D A0 ws) (hS : va_S A0 s.heap H locs) (hA : ∀ q : Nat, s.heap.size ≤ q → A0 q) (hZ : cst A0 s) {ci q0 N : Nat} {T : u_T} {fs : List Value} (hci : vwCl[ci]? = some (C, T, N)) (hq : ws[q0]? = some (b, .inr (ci, fs)))
    (hn : As.length = n) (hsz : ls.size = nL) (hst : st0 = As.reverse ++ .ref b :: rest) (hw : (rest.map fun v => v.category).sum ≤ 8) (hdg : decode cc pc = .ok (.invokevirtual index, 3)) (hcs : cells ≤ R.cells ∧ slots ≤ R.slots)
    (kk : ∀ (H1 : Heap) (locs1 : List Loc), va_P D vwCl ws' H1 → va_D A0 ws' → va_S A0 s.heap H1 locs1 → W p l e R s m args below meth c H1 locs1 cells slots Q (F0 m (pc + 3) ls (.int res :: rest))) : W p l e R s m args below meth c H locs cells slots Q (F0 m pc ls st0) :=
  cBackI (As := .ref b :: As) (va_runV (As := As) (rest := rest) S (hM H.size) cw ⟨cB_blind, va_recv hK hP hci hq, cPre hK hP hD hS hA hZ _⟩ rfl hn hsz hst (lv_room hw) hdg hcs) hD hS hA kk
theorem cc_vV (S : CallFix p m c cc nL s args Wall own) (hM : MV l y wds rm D tys ws ws' (.ref b :: As)) (cw : CallW R s args own C index y bytes maxL ret wds rm 0 0 n) (hK : va_K D vwCl tys s) (hP : va_P D vwCl ws H) (hD : va_D A0 ws) (hS : va_S A0 s.heap H locs) (hA : ∀ q : Nat, s.heap.size ≤ q → A0 q) (hZ : cst A0 s) {ci q0 N : Nat} {T : u_T} {fs : List Value} (hci : vwCl[ci]? = some (C, T, N)) (hq : ws[q0]? = some (b, .inr (ci, fs)))
    (hn : As.length = n) (hsz : ls.size = nL) (hst : st0 = As.reverse ++ .ref b :: rest) (hw : (rest.map fun v => v.category).sum ≤ 8) (hdg : decode cc pc = .ok (.invokevirtual index, 3)) (hcs : cells ≤ R.cells ∧ slots ≤ R.slots)
    (kk : ∀ (H1 : Heap) (locs1 : List Loc), va_P D vwCl ws' H1 → va_D A0 ws' → va_S A0 s.heap H1 locs1 → W p l e R s m args below meth c H1 locs1 cells slots Q (F0 m (pc + 3) ls rest)) : W p l e R s m args below meth c H locs cells slots Q (F0 m pc ls st0) :=
  cBackV (As := .ref b :: As) (va_runV (As := As) (rest := rest) S (hM H.size) cw ⟨cB_blind, va_recv hK hP hci hq, cPre hK hP hD hS hA hZ _⟩ rfl hn hsz hst (lv_room hw) hdg hcs) hD hS hA kk
theorem cc_iS (S : CallFix p m c cc nL s args Wall own) (hM : MI l y wds rm D tys ws ws' As res) (cw : CallB R s args own index y bytes maxL ret wds rm 0 0 n ∧ (Cond.static y).before args s = true) (hK : va_K D vwCl tys s) (hP : va_P D vwCl ws H) (hD : va_D A0 ws) (hS : va_S A0 s.heap H locs) (hA : ∀ q : Nat, s.heap.size ≤ q → A0 q) (hZ : cst A0 s)
    (hn : As.length = n) (hsz : ls.size = nL) (hst : st0 = As.reverse ++ rest) (hw : (rest.map fun v => v.category).sum ≤ 8) (hdg : decode cc pc = .ok (.invokestatic index, 3)) (hcs : cells ≤ R.cells ∧ slots ≤ R.slots)
    (kk : ∀ (H1 : Heap) (locs1 : List Loc), va_P D vwCl ws' H1 → va_D A0 ws' → va_S A0 s.heap H1 locs1 → W p l e R s m args below meth c H1 locs1 cells slots Q (F0 m (pc + 3) ls (.int res :: rest))) : W p l e R s m args below meth c H locs cells slots Q (F0 m pc ls st0) :=
  cBackI (As := As) (va_runS (As := As) (rest := rest) S (hM H.size) cw ⟨cB_blind, cPre hK hP hD hS hA hZ _⟩ rfl hn hsz hst (lv_room hw) hdg hcs) hD hS hA kk
theorem cc_vS (S : CallFix p m c cc nL s args Wall own) (hM : MV l y wds rm D tys ws ws' As) (cw : CallB R s args own index y bytes maxL ret wds rm 0 0 n ∧ (Cond.static y).before args s = true) (hK : va_K D vwCl tys s) (hP : va_P D vwCl ws H) (hD : va_D A0 ws) (hS : va_S A0 s.heap H locs) (hA : ∀ q : Nat, s.heap.size ≤ q → A0 q) (hZ : cst A0 s)
    (hn : As.length = n) (hsz : ls.size = nL) (hst : st0 = As.reverse ++ rest) (hw : (rest.map fun v => v.category).sum ≤ 8) (hdg : decode cc pc = .ok (.invokestatic index, 3)) (hcs : cells ≤ R.cells ∧ slots ≤ R.slots)
    (kk : ∀ (H1 : Heap) (locs1 : List Loc), va_P D vwCl ws' H1 → va_D A0 ws' → va_S A0 s.heap H1 locs1 → W p l e R s m args below meth c H1 locs1 cells slots Q (F0 m (pc + 3) ls rest)) : W p l e R s m args below meth c H locs cells slots Q (F0 m pc ls st0) :=
  cBackV (As := As) (va_runS (As := As) (rest := rest) S (hM H.size) cw ⟨cB_blind, cPre hK hP hD hS hA hZ _⟩ rfl hn hsz hst (lv_room hw) hdg hcs) hD hS hA kk
theorem cc_iSN (S : CallFix p m c cc nL s args Wall own) (hM : MI l y wds rm D tys ws ws' As res) (cw : va_CN R s args own index y host bytes maxL ret wds rm 0 0 n ∧ (Cond.static y).before args s = true ∧ True) (hK : va_K D vwCl tys s) (hP : va_P D vwCl ws H) (hD : va_D A0 ws) (hS : va_S A0 s.heap H locs) (hA : ∀ q : Nat, s.heap.size ≤ q → A0 q) (hZ : cst A0 s)
    (hn : As.length = n) (hsz : ls.size = nL) (hst : st0 = As.reverse ++ rest) (hw : (rest.map fun v => v.category).sum ≤ 8) (hdg : decode cc pc = .ok (.invokestatic index, 3)) (hcs : cells ≤ R.cells ∧ slots ≤ R.slots)
    (kk : ∀ (H1 : Heap) (locs1 : List Loc), va_P D vwCl ws' H1 → va_D A0 ws' → va_S A0 s.heap H1 locs1 → W p l e R s m args below meth c H1 locs1 cells slots Q (F0 m (pc + 3) ls (.int res :: rest))) : W p l e R s m args below meth c H locs cells slots Q (F0 m pc ls st0) :=
  cBackI (As := As) (va_runSN (As := As) (rest := rest) S (hM H.size) cw ⟨cB_blind, cPre hK hP hD hS hA hZ _⟩ rfl hn hsz hst (lv_room hw) hdg hcs) hD hS hA kk
/-- a method's end with an int -/
theorem cc_ret {v : Int32} {ty : FieldType} (hx : p.tables.exec = Jvm.exec) (hb : c.code = cc) (hr : meth.sig.returnType = some ty) (hn : narrow ty (.int v) = .int v) (hQ : Q = MQ below (va_Qi (S := Unit) (fun r _ => res = r) (fun _ t => cE D tys ws' A0 t) A0) args s 0 0 A0) (hK : va_K D vwCl tys s) (hP : va_P D vwCl ws' H) (hD : va_D A0 ws') (hS : va_S A0 s.heap H locs) (hv : res = v) (hdg : decode cc pc = .ok (.ireturn, 1)) (hlocks : meth.locks = false) : W p l e R s m args below meth c H locs 0 0 Q (F0 m pc ls [.int v]) := by
  subst hQ
  exact W.zret hx hb hr hn (fun t ht hW => ⟨⟨v, (), rfl, hv, by rw [ht]; exact hP, va_K.moved hW.alike hK, hD⟩, hS.F ht⟩) hS.2.2 hdg hlocks
theorem cc_vret (hx : p.tables.exec = Jvm.exec) (hb : c.code = cc) (hr : meth.sig.returnType = none) (hQ : Q = MQ below (va_Qv (S := Unit) (fun _ => True) (fun _ t => cE D tys ws' A0 t) A0) args s 0 0 A0) (hK : va_K D vwCl tys s) (hP : va_P D vwCl ws' H) (hD : va_D A0 ws') (hS : va_S A0 s.heap H locs) (hdg : decode cc pc = .ok (.return_, 1)) (hlocks : meth.locks = false) : W p l e R s m args below meth c H locs 0 0 Q (F0 m pc ls []) := by
  subst hQ
  exact W.vret hx hb hr (fun t ht hW => ⟨⟨(), rfl, trivial, by rw [ht]; exact hP, va_K.moved hW.alike hK, hD⟩, hS.F ht⟩) hS.2.2 hdg hlocks
/-- a call of a method that throws, in one that doesn't catch -/
theorem cX_back {E : String} {Qc : Array Value → State → Outcome → State → Prop} (hAe : va_A ws s.heap.size = A0) (hQ : Q = vx_MQ below Qc (cXC D tys ws ws' E s.heap.size) args s 1 6 A0) (hout : ∀ x ∈ c.exceptionTable.toList, False) (hlocks : meth.locks = false) (hK : va_K D vwCl tys s) {E1 : String} (hE : E = E1) {H1 : Heap} {locs1 : List Loc} (hP : va_P D vwCl ws' H1) (hD : va_D A0 ws') (hS : va_S A0 s.heap H1 locs1) (hz : s.heap.size + 1 ≤ H1.size) {ce : Cell} {q : Addr} (hcell : H1[q]? = some ce) (hv : ce.vm = .none) (hcl : s.vm.findClass E1 = some ce.cls) (hc : cells ≤ 1) (hs : slots ≤ 6) :
    vx_W p l e R s m args below meth c H1 locs1 cells slots Q (F0 m pc ls rest) q := by
  subst hAe
  subst hQ
  exact vx_out (fun x hx => (hout x hx).elim) hlocks hcell hv hcl (fun t ht hvm => ⟨(), trivial, ⟨⟨hE, by rw [ht]; exact hP, va_K.moved hvm hK, hD⟩, by rw [ht]; exact hz⟩, hS.F ht⟩) hS.2.2 hc hs
theorem cX_iV {E : String} (S : CallFix p m c cc nL s args Wall own) (hM : XI l y wds rm D tys ws ws' (.ref b :: As) E) (cw : CallW R s args own C index y bytes maxL ret wds rm 1 6 n) (hK : va_K D vwCl tys s) (hP : va_P D vwCl ws H) (hD : va_D A0 ws) (hS : va_S A0 s.heap H locs) (hA : ∀ q : Nat, s.heap.size ≤ q → A0 q) (hZ : cst A0 s) {ci q0 N : Nat} {T : u_T} {fs : List Value} (hci : vwCl[ci]? = some (C, T, N)) (hq : ws[q0]? = some (b, .inr (ci, fs)))
    (hn : As.length = n) (hsz : ls.size = nL) (hst : st0 = As.reverse ++ .ref b :: rest) (hw : (rest.map fun v => v.category).sum ≤ 8) (hdg : decode cc pc = .ok (.invokevirtual index, 3)) (hcs : cells + 1 ≤ R.cells ∧ slots + 6 ≤ R.slots)
    (kx : ∀ (ce : Cell) (q9 : Addr) (H1 : Heap) (locs1 : List Loc), va_P D vwCl ws' H1 → va_D A0 ws' → va_S A0 s.heap H1 locs1 → s.heap.size + 1 ≤ H1.size → H1[q9]? = some ce → ce.vm = .none → s.vm.findClass E = some ce.cls → vx_W p l e R s m args below meth c H1 locs1 (cells + 1) (slots + 6) Q (F0 m pc ls rest) q9) : W p l e R s m args below meth c H locs cells slots Q (F0 m pc ls st0) := by
  have hF := cF hD hS hA
  refine vx_calli (vx_runV (As := As) (rest := rest) S (hM H.size) cw ⟨cB_blind, va_recv hK hP hci hq, cPre hK hP hD hS hA hZ _⟩ rfl hn hsz hst (lv_room hw) hdg hcs) hS (fun q _ h => hF q h) hF (fun q _ h => hF q h) (fun E' ce q9 u t H1 locs1 ht hvm _ hB hz1 hk1 hS1 h1 h2 h3 => ?_) (fun r u t H1 locs1 ht hvm hpost => hpost.elim)
  obtain ⟨⟨rfl, hP1, hK1, hD1⟩, hz9⟩ := hB
  rw [ht] at hP1 hz9
  exact kx ce q9 H1 locs1 hP1 (hD1.weaken (fun _ q _ h => hF q.1 h)) hS1 (Nat.le_trans (Nat.add_le_add_right hS.1 1) hz9) h1 h2 h3
theorem cX_vV {E : String} (S : CallFix p m c cc nL s args Wall own) (hM : XV l y wds rm D tys ws ws' (.ref b :: As) E) (cw : CallW R s args own C index y bytes maxL ret wds rm 1 6 n) (hK : va_K D vwCl tys s) (hP : va_P D vwCl ws H) (hD : va_D A0 ws) (hS : va_S A0 s.heap H locs) (hA : ∀ q : Nat, s.heap.size ≤ q → A0 q) (hZ : cst A0 s) {ci q0 N : Nat} {T : u_T} {fs : List Value} (hci : vwCl[ci]? = some (C, T, N)) (hq : ws[q0]? = some (b, .inr (ci, fs)))
    (hn : As.length = n) (hsz : ls.size = nL) (hst : st0 = As.reverse ++ .ref b :: rest) (hw : (rest.map fun v => v.category).sum ≤ 8) (hdg : decode cc pc = .ok (.invokevirtual index, 3)) (hcs : cells + 1 ≤ R.cells ∧ slots + 6 ≤ R.slots)
    (kx : ∀ (ce : Cell) (q9 : Addr) (H1 : Heap) (locs1 : List Loc), va_P D vwCl ws' H1 → va_D A0 ws' → va_S A0 s.heap H1 locs1 → s.heap.size + 1 ≤ H1.size → H1[q9]? = some ce → ce.vm = .none → s.vm.findClass E = some ce.cls → vx_W p l e R s m args below meth c H1 locs1 (cells + 1) (slots + 6) Q (F0 m pc ls rest) q9) : W p l e R s m args below meth c H locs cells slots Q (F0 m pc ls st0) := by
  have hF := cF hD hS hA
  refine vx_callv (vx_runV (As := As) (rest := rest) S (hM H.size) cw ⟨cB_blind, va_recv hK hP hci hq, cPre hK hP hD hS hA hZ _⟩ rfl hn hsz hst (lv_room hw) hdg hcs) hS (fun q _ h => hF q h) hF (fun q _ h => hF q h) (fun E' ce q9 u t H1 locs1 ht hvm _ hB hz1 hk1 hS1 h1 h2 h3 => ?_) (fun u t H1 locs1 ht hvm hpost => hpost.elim)
  obtain ⟨⟨rfl, hP1, hK1, hD1⟩, hz9⟩ := hB
  rw [ht] at hP1 hz9
  exact kx ce q9 H1 locs1 hP1 (hD1.weaken (fun _ q _ h => hF q.1 h)) hS1 (Nat.le_trans (Nat.add_le_add_right hS.1 1) hz9) h1 h2 h3
theorem cX_vS {E : String} (S : CallFix p m c cc nL s args Wall own) (hM : XV l y wds rm D tys ws ws' As E) (cw : CallB R s args own index y bytes maxL ret wds rm 1 6 n ∧ (Cond.static y).before args s = true) (hK : va_K D vwCl tys s) (hP : va_P D vwCl ws H) (hD : va_D A0 ws) (hS : va_S A0 s.heap H locs) (hA : ∀ q : Nat, s.heap.size ≤ q → A0 q) (hZ : cst A0 s)
    (hn : As.length = n) (hsz : ls.size = nL) (hst : st0 = As.reverse ++ rest) (hw : (rest.map fun v => v.category).sum ≤ 8) (hdg : decode cc pc = .ok (.invokestatic index, 3)) (hcs : cells + 1 ≤ R.cells ∧ slots + 6 ≤ R.slots)
    (kx : ∀ (ce : Cell) (q9 : Addr) (H1 : Heap) (locs1 : List Loc), va_P D vwCl ws' H1 → va_D A0 ws' → va_S A0 s.heap H1 locs1 → s.heap.size + 1 ≤ H1.size → H1[q9]? = some ce → ce.vm = .none → s.vm.findClass E = some ce.cls → vx_W p l e R s m args below meth c H1 locs1 (cells + 1) (slots + 6) Q (F0 m pc ls rest) q9) : W p l e R s m args below meth c H locs cells slots Q (F0 m pc ls st0) := by
  have hF := cF hD hS hA
  refine vx_callv (vx_runS (As := As) (rest := rest) S (hM H.size) cw ⟨cB_blind, cPre hK hP hD hS hA hZ _⟩ rfl hn hsz hst (lv_room hw) hdg hcs) hS (fun q _ h => hF q h) hF (fun q _ h => hF q h) (fun E' ce q9 u t H1 locs1 ht hvm _ hB hz1 hk1 hS1 h1 h2 h3 => ?_) (fun u t H1 locs1 ht hvm hpost => hpost.elim)
  obtain ⟨⟨rfl, hP1, hK1, hD1⟩, hz9⟩ := hB
  rw [ht] at hP1 hz9
  exact kx ce q9 H1 locs1 hP1 (hD1.weaken (fun _ q _ h => hF q.1 h)) hS1 (Nat.le_trans (Nat.add_le_add_right hS.1 1) hz9) h1 h2 h3
theorem cxt.words {cls : String} (h : cxt s) (hc : cls ∈ castL) : ∀ w ∈ declL.map Cond.declares ++ [Cond.castable cls cls], w.before args s = true := by
  intro w hw
  rcases List.mem_append.mp hw with q | q
  · obtain ⟨y, hy, rfl⟩ := List.mem_map.mp q
    exact va_Nw.use rfl (h.1 y hy)
  · rw [List.mem_singleton.mp q]
    exact va_Nw.use rfl (h.2.1 cls hc)
/-- new X(text), thrown: nothing of the world is changed -/
theorem cX_throw {cls text : String} {names : List String} {ik is ic sa : Nat} {Qc : Array Value → State → Outcome → State → Prop} (hx : p.tables.exec = Jvm.exec) (hb : c.code = cc) (hl0 : l.stackTraces = false) (hown : s.vm.findClass own = some m.cls) (hcls : Bundle.fit cls = true) (hnames : ∀ n ∈ names, Bundle.fit n = true)
    (hk : (Cond.classLink own ik cls).before args s = true) (hini : (Cond.initialized cls).before args s = true) (hstr : vk_R own is text sa s) (hat : ∀ w ∈ (vx_atS own ic cls names).filter goodWord, w.before args s = true) (hrest : ∀ w ∈ (vx_atS own ic cls names).filter (fun w => !goodWord w), w ∈ declL.map Cond.declares ++ [Cond.castable cls cls]) (hcx : cxt s) (hcast : cls ∈ castL) (hgood : ∀ w ∈ Cond.classLink own ik cls :: Cond.initialized cls :: vx_atS own ic cls names, vx_ot w = true)
    (hAe : va_A ws s.heap.size = A0) (hUN : vx_Zq Bundle.tN "UNASSIGNED_STACK" Bundle.steD A0 s s.heap ∧ vx_Zq Bundle.tN "SUPPRESSED_SENTINEL" Bundle.listD A0 s s.heap) (hQ : Q = vx_MQ below Qc (cXC D tys ws ws' cls s.heap.size) args s 1 6 A0) (hout : ∀ x ∈ c.exceptionTable.toList, False) (hlocks : meth.locks = false) (hK : va_K D vwCl tys s) (hP : va_P D vwCl ws' H) (hD : va_D A0 ws') (hS : va_S A0 s.heap H locs) (hsize : ls.size = c.maxLocals)
    (d0 : decode cc pc = .ok (.new ik, 3)) (d3 : decode cc (pc + 3) = .ok (.dup, 1)) (d4 : decode cc (pc + 4) = .ok (.ldc_w is, 3)) (d7 : decode cc (pc + 7) = .ok (.invokespecial ic, 3)) (d10 : decode cc (pc + 10) = .ok (.athrow, 1))
    (hRf : names.length + 3 < R.frames) (hRl : (rest.map fun v => v.category).sum + (13 * (names.length + 1) + 43) ≤ R.locals) (hRc : 1 ≤ R.cells) (hRs : 6 ≤ R.slots) : W p l e R s m args below meth c H locs 0 0 Q (F0 m pc ls rest) := by
  subst hAe
  subst hQ
  refine vx_throwSW (names := names) (mc := 1) (ms := 6) hx hb hl0 hown hcls hnames hk hini hstr (vx_hat hat hrest (fun w hw => cxt.words hcx hcast w hw)) hgood hUN.1 hUN.2 hS hsize d0 d3 d4 d7 d10 (fun x hx => (hout x hx).elim) hRf hRl (by omega) (by omega) hlocks (fun t hvm hz hq => ?_) hS.2.2 (Nat.le_refl _) (Nat.le_refl _)
  exact ⟨(), trivial, ⟨⟨rfl, hP.kept (fun k q hk => hq q.1 (hP k q hk).lt), va_K.moved hvm hK, hD⟩, Nat.le_trans (Nat.add_le_add_right hS.1 1) hz⟩, Nat.le_trans hS.1 (Nat.le_of_succ_le hz), fun q h1 h2 => (hq q (Nat.lt_of_lt_of_le h1 hS.1)).trans (hS.2.1 q h1 h2)⟩
end CBASE
/-! constructors: the world grows; an old world's cells stay beside -/
theorem cls_int {D : va_G} {tys : List (ClassId × FieldType)} {s : State} (hK : va_K D vwCl tys s) (i j : Nat) {c1 c2 : ClassId} (h1 : tys[i]? = some (c1, .int)) (h2 : tys[j]? = some (c2, .int)) : c1 = c2 := by
  have a : s.vm.findClass ("[" ++ FieldType.int.toString) = some c1 := (hK.2 i _ h1).2
  have b : s.vm.findClass ("[" ++ FieldType.int.toString) = some c2 := (hK.2 j _ h2).2
  exact Option.some.inj (a.symm.trans b)
theorem cls_bool {D : va_G} {tys : List (ClassId × FieldType)} {s : State} (hK : va_K D vwCl tys s) (i j : Nat) {c1 c2 : ClassId} (h1 : tys[i]? = some (c1, .boolean)) (h2 : tys[j]? = some (c2, .boolean)) : c1 = c2 := by
  have a : s.vm.findClass ("[" ++ FieldType.boolean.toString) = some c1 := (hK.2 i _ h1).2
  have b : s.vm.findClass ("[" ++ FieldType.boolean.toString) = some c2 := (hK.2 j _ h2).2
  exact Option.some.inj (a.symm.trans b)
/-- a constructor of the object at h0: what it makes lies at the addresses ad, the object itself at ad 0 -/
def MC (l : Launch) (y : MethodName) (wds : List Cond) (rm : Room) (D : va_G) (tys : List (ClassId × FieldType)) (ws : va_W) (wf : (Nat → Nat) → va_W) (h0 : Nat) (mc ms : Nat) : Prop :=
  ∀ sz : Nat, Met l y wds rm (va_Pc [.ref h0] (cB D tys ws sz)) (va_Qv (S := Nat → Nat) (fun ad => ad 0 = h0) (fun ad t => cE D tys (wf ad) (va_A ws sz) t) (va_A ws sz)) mc ms (va_A ws sz)
section CCTOR
variable {p : Program} {l : Launch} {e : Env} {R : Room} {s : State} {m : MethodId} {args : Array Value} {below : List Frame} {meth : Method} {c : Code} {H : Heap} {locs : List Loc} {cells slots : Nat} {Q : State → Prop}
variable {cc : ByteArray} {pc nL index maxL : Nat} {ls : Array Slot} {rest st0 : List Value} {D : va_G} {tys : List (ClassId × FieldType)} {ws wc wr : va_W} {wf : (Nat → Nat) → va_W} {A0 : Nat → Prop} {y : MethodName} {bytes : ByteArray} {wds : List Cond} {rm : Room} {own host : String} {b : Nat}
theorem cBackC {mc ms : Nat} {a : Array Value} (hr : va_Run p l e R s m args below meth c H locs cells slots mc ms (F0 m pc ls st0) rest (va_Qv (S := Nat → Nat) (fun ad => ad 0 = b) (fun ad t => cE D tys (wf ad) (va_A wc H.size) t) (va_A wc H.size) a) (va_A wc H.size)) (hP : va_P D vwCl ws H) (hD : va_D A0 ws) (hS : va_S A0 s.heap H locs) (hA : ∀ q : Nat, s.heap.size ≤ q → A0 q)
    (isC isR : List Nat) (hC : isC.map (fun i => ws[i]?) = wc.map some) (hR : isR.map (fun i => ws[i]?) = wr.map some) (hn : va_nd isR = true) (hdis : ∀ i ∈ isR, i ∉ isC)
    (kk : ∀ (ad : Nat → Nat) (H1 : Heap) (locs1 : List Loc), ad 0 = b → va_P D vwCl (wr ++ wf ad) H1 → va_D A0 (wr ++ wf ad) → va_S A0 s.heap H1 locs1 → W p l e R s m args below meth c H1 locs1 (cells + mc) (slots + ms) Q (F0 m (pc + 3) ls rest)) : W p l e R s m args below meth c H locs cells slots Q (F0 m pc ls st0) := by
  have hF := va_free (wc := wc) hD hS hA isC hC
  refine va_callv hr hS (fun q _ h => hF q h) hF (fun u t H1 locs1 ht hvm hpost hB hz1 hk1 hS1 => ?_)
  obtain ⟨hP1, hK1, hD1⟩ := hB
  rw [ht] at hP1
  obtain ⟨h1, h2⟩ := va_join hP hD isC isR hC hR hn hdis hk1 hF hP1 hD1
  exact kk u H1 locs1 hpost h1 h2 hS1
theorem cc_cI {mc ms : Nat} (S : CallFix p m c cc nL s args Wall own) (hM : MC l y wds rm D tys wc wf b mc ms) (cw : CallB R s args own index y bytes maxL none wds rm mc ms 0 ∧ y.name = "<init>" ∧ (Cond.instanceMethod y).before args s = true) (hK : va_K D vwCl tys s) (hP : va_P D vwCl ws H) (hD : va_D A0 ws) (hS : va_S A0 s.heap H locs) (hA : ∀ q : Nat, s.heap.size ≤ q → A0 q) (hZ : cst A0 s)
    (isC isR : List Nat) (hC : isC.map (fun i => ws[i]?) = wc.map some) (hC2 : isC.filterMap (fun i => ws[i]?) = wc) (hC3 : va_nd isC = true) (hR : isR.map (fun i => ws[i]?) = wr.map some) (hn : va_nd isR = true) (hdis : ∀ i ∈ isR, i ∉ isC)
    (hsz : ls.size = nL) (hst : st0 = .ref b :: rest) (hw : (rest.map fun v => v.category).sum ≤ 8) (hdg : decode cc pc = .ok (.invokespecial index, 3)) (hcs : cells + mc ≤ R.cells ∧ slots + ms ≤ R.slots)
    (kk : ∀ (ad : Nat → Nat) (H1 : Heap) (locs1 : List Loc), ad 0 = b → va_P D vwCl (wr ++ wf ad) H1 → va_D A0 (wr ++ wf ad) → va_S A0 s.heap H1 locs1 → W p l e R s m args below meth c H1 locs1 (cells + mc) (slots + ms) Q (F0 m (pc + 3) ls rest)) : W p l e R s m args below meth c H locs cells slots Q (F0 m pc ls st0) :=
  cBackC (va_runI (As := []) (rest := rest) S (hM H.size) cw ⟨cB_blind, cPre hK (hP.sub isC hC2) (hD.sub isC hC3 hC) hS hA hZ _⟩ rfl rfl hsz hst (lv_room hw) hdg hcs) hP hD hS hA isC isR hC hR hn hdis kk
theorem cc_cIN {mc ms : Nat} (S : CallFix p m c cc nL s args Wall own) (hM : MC l y wds rm D tys wc wf b mc ms) (cw : va_CN R s args own index y host bytes maxL none wds rm mc ms 0 ∧ y.name = "<init>" ∧ (Cond.instanceMethod y).before args s = true) (hK : va_K D vwCl tys s) (hP : va_P D vwCl ws H) (hD : va_D A0 ws) (hS : va_S A0 s.heap H locs) (hA : ∀ q : Nat, s.heap.size ≤ q → A0 q) (hZ : cst A0 s)
    (isC isR : List Nat) (hC : isC.map (fun i => ws[i]?) = wc.map some) (hC2 : isC.filterMap (fun i => ws[i]?) = wc) (hC3 : va_nd isC = true) (hR : isR.map (fun i => ws[i]?) = wr.map some) (hn : va_nd isR = true) (hdis : ∀ i ∈ isR, i ∉ isC)
    (hsz : ls.size = nL) (hst : st0 = .ref b :: rest) (hw : (rest.map fun v => v.category).sum ≤ 8) (hdg : decode cc pc = .ok (.invokespecial index, 3)) (hcs : cells + mc ≤ R.cells ∧ slots + ms ≤ R.slots)
    (kk : ∀ (ad : Nat → Nat) (H1 : Heap) (locs1 : List Loc), ad 0 = b → va_P D vwCl (wr ++ wf ad) H1 → va_D A0 (wr ++ wf ad) → va_S A0 s.heap H1 locs1 → W p l e R s m args below meth c H1 locs1 (cells + mc) (slots + ms) Q (F0 m (pc + 3) ls rest)) : W p l e R s m args below meth c H locs cells slots Q (F0 m pc ls st0) :=
  cBackC (va_runIN (As := []) (rest := rest) S (hM H.size) cw ⟨cB_blind, cPre hK (hP.sub isC hC2) (hD.sub isC hC3 hC) hS hA hZ _⟩ rfl rfl hsz hst (lv_room hw) hdg hcs) hP hD hS hA isC isR hC hR hn hdis kk
theorem cc_cret {mc ms : Nat} {ws' : va_W} (ad : Nat → Nat) (hx : p.tables.exec = Jvm.exec) (hb : c.code = cc) (hr : meth.sig.returnType = none) (hQ : Q = MQ below (va_Qv (S := Nat → Nat) (fun ad => ad 0 = b) (fun ad t => cE D tys (wf ad) A0 t) A0) args s mc ms A0) (hK : va_K D vwCl tys s) (had : ad 0 = b) (hw : wf ad = ws') (hP : va_P D vwCl ws' H) (hD : va_D A0 ws') (hS : va_S A0 s.heap H locs) (hdg : decode cc pc = .ok (.return_, 1)) (hlocks : meth.locks = false) : W p l e R s m args below meth c H locs mc ms Q (F0 m pc ls []) := by
  subst hQ
  subst hw
  exact W.vret hx hb hr (fun t ht hW => ⟨⟨ad, rfl, had, by rw [ht]; exact hP, va_K.moved hW.alike hK, hD⟩, hS.F ht⟩) hS.2.2 hdg hlocks
end CCTOR
end
section
abbrev cT_t : Type := (Nat → Int32) × (Nat → Int32) × (Nat → Int32) × Int32 × Int32 × Int32 × Int32
abbrev cD_t : Type := (Nat → Int32) × (Nat → Int32)
abbrev cS_t : Type := (Nat → Int32) × (Nat → Int32) × (Nat → Int32) × Int32
abbrev cL_t : Type := (Nat → Int32) × (Nat → Int32) × (Nat → Int32)
abbrev cH_t : Type := (Nat → Int32) × (Nat → Int32)
abbrev cI_t : Type := (Nat → Int32) × (Nat → Int32) × (Nat → Int32) × Int32
abbrev cP_t : Type := (Nat → Int32) × (Nat → Int32) × (Nat → Int32)
abbrev cB_t : Type := (Nat → Int32) × (Nat → Int32) × (Nat → Int32) × (Nat → Int32) × (Nat → Int32) × Int32
abbrev cK_t : Type := (Nat → Int32)
abbrev GS : Type := Int32 × cT_t × cD_t × cS_t × cL_t × cH_t × cI_t × cP_t × cB_t × cK_t
def c_minute (u : GS) : Int32 := u.1
def c_minute_set (u : GS) (v : Int32) : GS := (v, u.2)
def qcT (u : GS) : cT_t := u.2.1
def qcT_put (u : GS) (v : cT_t) : GS := (u.1, (v, u.2.2))
def cT_held (u : GS) : (Nat → Int32) := u.2.1.1
def cT_held_set (u : GS) (v : (Nat → Int32)) : GS := (u.1, ((v, u.2.1.2), u.2.2))
def cT_stopped (u : GS) : (Nat → Int32) := u.2.1.2.1
def cT_stopped_set (u : GS) (v : (Nat → Int32)) : GS := (u.1, ((u.2.1.1, (v, u.2.1.2.2)), u.2.2))
def cT_broken (u : GS) : (Nat → Int32) := u.2.1.2.2.1
def cT_broken_set (u : GS) (v : (Nat → Int32)) : GS := (u.1, ((u.2.1.1, (u.2.1.2.1, (v, u.2.1.2.2.2))), u.2.2))
def cT_demand (u : GS) : Int32 := u.2.1.2.2.2.1
def cT_demand_set (u : GS) (v : Int32) : GS := (u.1, ((u.2.1.1, (u.2.1.2.1, (u.2.1.2.2.1, (v, u.2.1.2.2.2.2)))), u.2.2))
def cT_came (u : GS) : Int32 := u.2.1.2.2.2.2.1
def cT_came_set (u : GS) (v : Int32) : GS := (u.1, ((u.2.1.1, (u.2.1.2.1, (u.2.1.2.2.1, (u.2.1.2.2.2.1, (v, u.2.1.2.2.2.2.2))))), u.2.2))
def cT_waiting (u : GS) : Int32 := u.2.1.2.2.2.2.2.1
def cT_waiting_set (u : GS) (v : Int32) : GS := (u.1, ((u.2.1.1, (u.2.1.2.1, (u.2.1.2.2.1, (u.2.1.2.2.2.1, (u.2.1.2.2.2.2.1, (v, u.2.1.2.2.2.2.2.2)))))), u.2.2))
def cT_gone (u : GS) : Int32 := u.2.1.2.2.2.2.2.2
def cT_gone_set (u : GS) (v : Int32) : GS := (u.1, ((u.2.1.1, (u.2.1.2.1, (u.2.1.2.2.1, (u.2.1.2.2.2.1, (u.2.1.2.2.2.2.1, (u.2.1.2.2.2.2.2.1, v)))))), u.2.2))
def qcD (u : GS) : cD_t := u.2.2.1
def qcD_put (u : GS) (v : cD_t) : GS := (u.1, (u.2.1, (v, u.2.2.2)))
def cD_is (u : GS) : (Nat → Int32) := u.2.2.1.1
def cD_is_set (u : GS) (v : (Nat → Int32)) : GS := (u.1, (u.2.1, ((v, u.2.2.1.2), u.2.2.2)))
def cD_stuckAt (u : GS) : (Nat → Int32) := u.2.2.1.2
def cD_stuckAt_set (u : GS) (v : (Nat → Int32)) : GS := (u.1, (u.2.1, ((u.2.2.1.1, v), u.2.2.2)))
def qcS (u : GS) : cS_t := u.2.2.2.1
def qcS_put (u : GS) (v : cS_t) : GS := (u.1, (u.2.1, (u.2.2.1, (v, u.2.2.2.2))))
def cS_limits (u : GS) : (Nat → Int32) := u.2.2.2.1.1
def cS_limits_set (u : GS) (v : (Nat → Int32)) : GS := (u.1, (u.2.1, (u.2.2.1, ((v, u.2.2.2.1.2), u.2.2.2.2))))
def cS_shown (u : GS) : (Nat → Int32) := u.2.2.2.1.2.1
def cS_shown_set (u : GS) (v : (Nat → Int32)) : GS := (u.1, (u.2.1, (u.2.2.1, ((u.2.2.2.1.1, (v, u.2.2.2.1.2.2)), u.2.2.2.2))))
def cS_loweredAt (u : GS) : (Nat → Int32) := u.2.2.2.1.2.2.1
def cS_loweredAt_set (u : GS) (v : (Nat → Int32)) : GS := (u.1, (u.2.1, (u.2.2.1, ((u.2.2.2.1.1, (u.2.2.2.1.2.1, (v, u.2.2.2.1.2.2.2))), u.2.2.2.2))))
def cS_weather (u : GS) : Int32 := u.2.2.2.1.2.2.2
def cS_weather_set (u : GS) (v : Int32) : GS := (u.1, (u.2.1, (u.2.2.1, ((u.2.2.2.1.1, (u.2.2.2.1.2.1, (u.2.2.2.1.2.2.1, v))), u.2.2.2.2))))
def qcL (u : GS) : cL_t := u.2.2.2.2.1
def qcL_put (u : GS) (v : cL_t) : GS := (u.1, (u.2.1, (u.2.2.1, (u.2.2.2.1, (v, u.2.2.2.2.2)))))
def cL_orders (u : GS) : (Nat → Int32) := u.2.2.2.2.1.1
def cL_orders_set (u : GS) (v : (Nat → Int32)) : GS := (u.1, (u.2.1, (u.2.2.1, (u.2.2.2.1, ((v, u.2.2.2.2.1.2), u.2.2.2.2.2)))))
def cL_told (u : GS) : (Nat → Int32) := u.2.2.2.2.1.2.1
def cL_told_set (u : GS) (v : (Nat → Int32)) : GS := (u.1, (u.2.1, (u.2.2.1, (u.2.2.2.1, ((u.2.2.2.2.1.1, (v, u.2.2.2.2.1.2.2)), u.2.2.2.2.2)))))
def cL_shown (u : GS) : (Nat → Int32) := u.2.2.2.2.1.2.2
def cL_shown_set (u : GS) (v : (Nat → Int32)) : GS := (u.1, (u.2.1, (u.2.2.1, (u.2.2.2.1, ((u.2.2.2.2.1.1, (u.2.2.2.2.1.2.1, v)), u.2.2.2.2.2)))))
def qcH (u : GS) : cH_t := u.2.2.2.2.2.1
def qcH_put (u : GS) (v : cH_t) : GS := (u.1, (u.2.1, (u.2.2.1, (u.2.2.2.1, (u.2.2.2.2.1, (v, u.2.2.2.2.2.2))))))
def cH_open (u : GS) : (Nat → Int32) := u.2.2.2.2.2.1.1
def cH_open_set (u : GS) (v : (Nat → Int32)) : GS := (u.1, (u.2.1, (u.2.2.1, (u.2.2.2.1, (u.2.2.2.2.1, ((v, u.2.2.2.2.2.1.2), u.2.2.2.2.2.2))))))
def cH_foundClearAt (u : GS) : (Nat → Int32) := u.2.2.2.2.2.1.2
def cH_foundClearAt_set (u : GS) (v : (Nat → Int32)) : GS := (u.1, (u.2.1, (u.2.2.1, (u.2.2.2.1, (u.2.2.2.2.1, ((u.2.2.2.2.2.1.1, v), u.2.2.2.2.2.2))))))
def qcI (u : GS) : cI_t := u.2.2.2.2.2.2.1
def qcI_put (u : GS) (v : cI_t) : GS := (u.1, (u.2.1, (u.2.2.1, (u.2.2.2.1, (u.2.2.2.2.1, (u.2.2.2.2.2.1, (v, u.2.2.2.2.2.2.2)))))))
def cI_places (u : GS) : (Nat → Int32) := u.2.2.2.2.2.2.1.1
def cI_places_set (u : GS) (v : (Nat → Int32)) : GS := (u.1, (u.2.1, (u.2.2.1, (u.2.2.2.1, (u.2.2.2.2.1, (u.2.2.2.2.2.1, ((v, u.2.2.2.2.2.2.1.2), u.2.2.2.2.2.2.2)))))))
def cI_how (u : GS) : (Nat → Int32) := u.2.2.2.2.2.2.1.2.1
def cI_how_set (u : GS) (v : (Nat → Int32)) : GS := (u.1, (u.2.1, (u.2.2.1, (u.2.2.2.1, (u.2.2.2.2.1, (u.2.2.2.2.2.1, ((u.2.2.2.2.2.2.1.1, (v, u.2.2.2.2.2.2.1.2.2)), u.2.2.2.2.2.2.2)))))))
def cI_patrols (u : GS) : (Nat → Int32) := u.2.2.2.2.2.2.1.2.2.1
def cI_patrols_set (u : GS) (v : (Nat → Int32)) : GS := (u.1, (u.2.1, (u.2.2.1, (u.2.2.2.1, (u.2.2.2.2.1, (u.2.2.2.2.2.1, ((u.2.2.2.2.2.2.1.1, (u.2.2.2.2.2.2.1.2.1, (v, u.2.2.2.2.2.2.1.2.2.2))), u.2.2.2.2.2.2.2)))))))
def cI_count (u : GS) : Int32 := u.2.2.2.2.2.2.1.2.2.2
def cI_count_set (u : GS) (v : Int32) : GS := (u.1, (u.2.1, (u.2.2.1, (u.2.2.2.1, (u.2.2.2.2.1, (u.2.2.2.2.2.1, ((u.2.2.2.2.2.2.1.1, (u.2.2.2.2.2.2.1.2.1, (u.2.2.2.2.2.2.1.2.2.1, v))), u.2.2.2.2.2.2.2)))))))
def qcP (u : GS) : cP_t := u.2.2.2.2.2.2.2.1
def qcP_put (u : GS) (v : cP_t) : GS := (u.1, (u.2.1, (u.2.2.1, (u.2.2.2.1, (u.2.2.2.2.1, (u.2.2.2.2.2.1, (u.2.2.2.2.2.2.1, (v, u.2.2.2.2.2.2.2.2))))))))
def cP_sections (u : GS) : (Nat → Int32) := u.2.2.2.2.2.2.2.1.1
def cP_sections_set (u : GS) (v : (Nat → Int32)) : GS := (u.1, (u.2.1, (u.2.2.1, (u.2.2.2.1, (u.2.2.2.2.1, (u.2.2.2.2.2.1, (u.2.2.2.2.2.2.1, ((v, u.2.2.2.2.2.2.2.1.2), u.2.2.2.2.2.2.2.2))))))))
def cP_incidents (u : GS) : (Nat → Int32) := u.2.2.2.2.2.2.2.1.2.1
def cP_incidents_set (u : GS) (v : (Nat → Int32)) : GS := (u.1, (u.2.1, (u.2.2.1, (u.2.2.2.1, (u.2.2.2.2.1, (u.2.2.2.2.2.1, (u.2.2.2.2.2.2.1, ((u.2.2.2.2.2.2.2.1.1, (v, u.2.2.2.2.2.2.2.1.2.2)), u.2.2.2.2.2.2.2.2))))))))
def cP_minutesLeft (u : GS) : (Nat → Int32) := u.2.2.2.2.2.2.2.1.2.2
def cP_minutesLeft_set (u : GS) (v : (Nat → Int32)) : GS := (u.1, (u.2.1, (u.2.2.1, (u.2.2.2.1, (u.2.2.2.2.1, (u.2.2.2.2.2.1, (u.2.2.2.2.2.2.1, ((u.2.2.2.2.2.2.2.1.1, (u.2.2.2.2.2.2.2.1.2.1, v)), u.2.2.2.2.2.2.2.2))))))))
def qcB (u : GS) : cB_t := u.2.2.2.2.2.2.2.2.1
def qcB_put (u : GS) (v : cB_t) : GS := (u.1, (u.2.1, (u.2.2.1, (u.2.2.2.1, (u.2.2.2.2.1, (u.2.2.2.2.2.1, (u.2.2.2.2.2.2.1, (u.2.2.2.2.2.2.2.1, (v, u.2.2.2.2.2.2.2.2.2)))))))))
def cB_lanes (u : GS) : (Nat → Int32) := u.2.2.2.2.2.2.2.2.1.1
def cB_lanes_set (u : GS) (v : (Nat → Int32)) : GS := (u.1, (u.2.1, (u.2.2.1, (u.2.2.2.1, (u.2.2.2.2.1, (u.2.2.2.2.2.1, (u.2.2.2.2.2.2.1, (u.2.2.2.2.2.2.2.1, ((v, u.2.2.2.2.2.2.2.2.1.2), u.2.2.2.2.2.2.2.2.2)))))))))
def cB_froms (u : GS) : (Nat → Int32) := u.2.2.2.2.2.2.2.2.1.2.1
def cB_froms_set (u : GS) (v : (Nat → Int32)) : GS := (u.1, (u.2.1, (u.2.2.1, (u.2.2.2.1, (u.2.2.2.2.1, (u.2.2.2.2.2.1, (u.2.2.2.2.2.2.1, (u.2.2.2.2.2.2.2.1, ((u.2.2.2.2.2.2.2.2.1.1, (v, u.2.2.2.2.2.2.2.2.1.2.2)), u.2.2.2.2.2.2.2.2.2)))))))))
def cB_tos (u : GS) : (Nat → Int32) := u.2.2.2.2.2.2.2.2.1.2.2.1
def cB_tos_set (u : GS) (v : (Nat → Int32)) : GS := (u.1, (u.2.1, (u.2.2.1, (u.2.2.2.1, (u.2.2.2.2.1, (u.2.2.2.2.2.1, (u.2.2.2.2.2.2.1, (u.2.2.2.2.2.2.2.1, ((u.2.2.2.2.2.2.2.2.1.1, (u.2.2.2.2.2.2.2.2.1.2.1, (v, u.2.2.2.2.2.2.2.2.1.2.2.2))), u.2.2.2.2.2.2.2.2.2)))))))))
def cB_begins (u : GS) : (Nat → Int32) := u.2.2.2.2.2.2.2.2.1.2.2.2.1
def cB_begins_set (u : GS) (v : (Nat → Int32)) : GS := (u.1, (u.2.1, (u.2.2.1, (u.2.2.2.1, (u.2.2.2.2.1, (u.2.2.2.2.2.1, (u.2.2.2.2.2.2.1, (u.2.2.2.2.2.2.2.1, ((u.2.2.2.2.2.2.2.2.1.1, (u.2.2.2.2.2.2.2.2.1.2.1, (u.2.2.2.2.2.2.2.2.1.2.2.1, (v, u.2.2.2.2.2.2.2.2.1.2.2.2.2)))), u.2.2.2.2.2.2.2.2.2)))))))))
def cB_ends (u : GS) : (Nat → Int32) := u.2.2.2.2.2.2.2.2.1.2.2.2.2.1
def cB_ends_set (u : GS) (v : (Nat → Int32)) : GS := (u.1, (u.2.1, (u.2.2.1, (u.2.2.2.1, (u.2.2.2.2.1, (u.2.2.2.2.2.1, (u.2.2.2.2.2.2.1, (u.2.2.2.2.2.2.2.1, ((u.2.2.2.2.2.2.2.2.1.1, (u.2.2.2.2.2.2.2.2.1.2.1, (u.2.2.2.2.2.2.2.2.1.2.2.1, (u.2.2.2.2.2.2.2.2.1.2.2.2.1, (v, u.2.2.2.2.2.2.2.2.1.2.2.2.2.2))))), u.2.2.2.2.2.2.2.2.2)))))))))
def cB_count (u : GS) : Int32 := u.2.2.2.2.2.2.2.2.1.2.2.2.2.2
def cB_count_set (u : GS) (v : Int32) : GS := (u.1, (u.2.1, (u.2.2.1, (u.2.2.2.1, (u.2.2.2.2.1, (u.2.2.2.2.2.1, (u.2.2.2.2.2.2.1, (u.2.2.2.2.2.2.2.1, ((u.2.2.2.2.2.2.2.2.1.1, (u.2.2.2.2.2.2.2.2.1.2.1, (u.2.2.2.2.2.2.2.2.1.2.2.1, (u.2.2.2.2.2.2.2.2.1.2.2.2.1, (u.2.2.2.2.2.2.2.2.1.2.2.2.2.1, v))))), u.2.2.2.2.2.2.2.2.2)))))))))
def qcK (u : GS) : cK_t := u.2.2.2.2.2.2.2.2.2
def qcK_put (u : GS) (v : cK_t) : GS := (u.1, (u.2.1, (u.2.2.1, (u.2.2.2.1, (u.2.2.2.2.1, (u.2.2.2.2.2.1, (u.2.2.2.2.2.2.1, (u.2.2.2.2.2.2.2.1, (u.2.2.2.2.2.2.2.2.1, v)))))))))
def cK_kept (u : GS) : (Nat → Int32) := u.2.2.2.2.2.2.2.2.2
def cK_kept_set (u : GS) (v : (Nat → Int32)) : GS := (u.1, (u.2.1, (u.2.2.1, (u.2.2.2.1, (u.2.2.2.2.1, (u.2.2.2.2.2.1, (u.2.2.2.2.2.2.1, (u.2.2.2.2.2.2.2.1, (u.2.2.2.2.2.2.2.2.1, v)))))))))
def wC (cI cZ : ClassId) (ad : Nat → Nat) (u : GS) : va_W := [(ad 0, .inr (9, [.int (c_minute u), .ref (ad 1), .ref (ad 2), .ref (ad 3), .ref (ad 4), .ref (ad 5), .ref (ad 6), .ref (ad 7), .ref (ad 8), .ref (ad 9)])), (ad 1, .inr (8, [.ref (ad 10), .ref (ad 11), .ref (ad 12), .int (cT_demand u), .int (cT_came u), .int (cT_waiting u), .int (cT_gone u)])), (ad 2, .inr (1, [.ref (ad 13), .ref (ad 14)])), (ad 3, .inr (7, [.ref (ad 15), .ref (ad 16), .ref (ad 17), .int (cS_weather u)])), (ad 4, .inr (3, [.ref (ad 18), .ref (ad 19), .ref (ad 20)])), (ad 5, .inr (6, [.ref (ad 21), .ref (ad 22)])), (ad 6, .inr (2, [.ref (ad 23), .ref (ad 24), .ref (ad 25), .int (cI_count u)])), (ad 7, .inr (4, [.ref (ad 26), .ref (ad 27), .ref (ad 28)])), (ad 8, .inr (0, [.ref (ad 29), .ref (ad 30), .ref (ad 31), .ref (ad 32), .ref (ad 33), .int (cB_count u)])), (ad 9, .inr (5, [.ref (ad 34)])), (ad 10, .inl (cI, 48, .inl (cT_held u))), (ad 11, .inl (cZ, 48, .inl (cT_stopped u))), (ad 12, .inl (cZ, 12, .inl (cT_broken u))), (ad 13, .inl (cI, 12, .inl (cD_is u))), (ad 14, .inl (cI, 12, .inl (cD_stuckAt u))), (ad 15, .inl (cI, 12, .inl (cS_limits u))), (ad 16, .inl (cI, 12, .inl (cS_shown u))), (ad 17, .inl (cI, 12, .inl (cS_loweredAt u))), (ad 18, .inl (cI, 48, .inl (cL_orders u))), (ad 19, .inl (cI, 48, .inl (cL_told u))), (ad 20, .inl (cI, 48, .inl (cL_shown u))), (ad 21, .inl (cZ, 12, .inl (cH_open u))), (ad 22, .inl (cI, 12, .inl (cH_foundClearAt u))), (ad 23, .inl (cI, 12, .inl (cI_places u))), (ad 24, .inl (cI, 12, .inl (cI_how u))), (ad 25, .inl (cI, 12, .inl (cI_patrols u))), (ad 26, .inl (cI, 3, .inl (cP_sections u))), (ad 27, .inl (cI, 3, .inl (cP_incidents u))), (ad 28, .inl (cI, 3, .inl (cP_minutesLeft u))), (ad 29, .inl (cI, 8, .inl (cB_lanes u))), (ad 30, .inl (cI, 8, .inl (cB_froms u))), (ad 31, .inl (cI, 8, .inl (cB_tos u))), (ad 32, .inl (cI, 8, .inl (cB_begins u))), (ad 33, .inl (cI, 8, .inl (cB_ends u))), (ad 34, .inl (cI, 720, .inl (cK_kept u)))]
def g_X9_placeOf (p0 : Int32) (p1 : Int32) : Option (Int32) :=
    some ((p0 * (4 : Int32)) + p1)

def lp_X6_tellCrosses_2 (k : GS → Option (GS)) : Nat → Int32 → GS → Option (GS)
  | 0, _, _ => none
  | n + 1, x2_2, w2 =>
    if (12 : Int32) ≤ x2_2 then
    k w2
    else
    g_in x2_2 12 (
    g_let (fun (w25 : GS) => g_let (x2_2 + 1) (fun (v4 : Int32) =>
    lp_X6_tellCrosses_2 k n v4 w25)) (fun (j25_3 : GS → Option (GS)) =>
    if (cH_open w2 x2_2.toNatClampNeg) = 0 then
    g_bind (g_X9_placeOf x2_2 (0 : Int32)) (fun (y6 : Int32) =>
    g_in y6 48 (
    g_let (cL_told_set w2 (upd (cL_told w2) y6.toNatClampNeg (2 : Int32))) (fun (u9 : GS) =>
    j25_3 u9)))
    else
    j25_3 w2))
def g_X6_tellCrosses (u : GS) : Option (GS) :=
    lp_X6_tellCrosses_2 (fun (w2 : GS)  => some w2) FU (0 : Int32) u

def g_X9_isWithin (p0 : Int32) (p1 : Int32) (p2 : Int32) : Option (Int32) :=
    if p0 < p1 then
    some (0 : Int32)
    else
    if p2 < p0 then
    some (0 : Int32)
    else
    some (1 : Int32)

def lp_X2_tellCrosses_2 (k : GS → Option (GS)) : Nat → Int32 → GS → Option (GS)
  | 0, _, _ => none
  | n + 1, x2_2, w2 =>
    if (12 : Int32) ≤ x2_2 then
    k w2
    else
    g_let (fun (w50 : GS) => g_let (x2_2 + 1) (fun (v3 : Int32) =>
    lp_X2_tellCrosses_2 k n v3 w50)) (fun (j50_2 : GS → Option (GS)) =>
    if (cI_count w2) ≤ x2_2 then
    j50_2 w2
    else
    g_in x2_2 12 (
    if (cI_how w2 x2_2.toNatClampNeg) = (1 : Int32) then
    g_in x2_2 12 (
    g_bind (g_X9_isWithin (cI_places w2 x2_2.toNatClampNeg) (0 : Int32) (47 : Int32)) (fun (y8 : Int32) =>
    if y8 = 0 then
    j50_2 w2
    else
    g_in x2_2 12 (
    g_in (cI_places w2 x2_2.toNatClampNeg) 48 (
    g_let (cL_told_set w2 (upd (cL_told w2) (cI_places w2 x2_2.toNatClampNeg).toNatClampNeg (2 : Int32))) (fun (u13 : GS) =>
    j50_2 u13)))))
    else
    j50_2 w2))
def g_X2_tellCrosses (u : GS) : Option (GS) :=
    lp_X2_tellCrosses_2 (fun (w2 : GS)  => some w2) FU (0 : Int32) u

def g_X0_isRunning (u : GS) (p0 : Int32) (p1 : Int32) : Option (Int32) :=
    g_bind (g_X9_isWithin p0 (0 : Int32) (7 : Int32)) (fun (y1 : Int32) =>
    if y1 = 0 then
    some (0 : Int32)
    else
    g_in p0 8 (
    if p1 < (cB_begins u p0.toNatClampNeg) then
    some (0 : Int32)
    else
    g_in p0 8 (
    if (cB_ends u p0.toNatClampNeg) ≤ p1 then
    some (0 : Int32)
    else
    some (1 : Int32))))

def lp_X0_tellCrossesOf_2 (p0 : Int32) (k : GS → Option (GS)) : Nat → Int32 → GS → Option (GS)
  | 0, _, _ => none
  | n + 1, x3_2, w2 =>
    if (12 : Int32) ≤ x3_2 then
    k w2
    else
    g_in p0 8 (
    g_bind (g_X9_placeOf x3_2 (cB_lanes w2 p0.toNatClampNeg)) (fun (y3 : Int32) =>
    g_in p0 8 (
    g_in p0 8 (
    g_bind (g_X9_isWithin x3_2 (cB_froms w2 p0.toNatClampNeg) (cB_tos w2 p0.toNatClampNeg)) (fun (y7 : Int32) =>
    g_let (fun (w55 : GS) => g_let (x3_2 + 1) (fun (v10 : Int32) =>
    lp_X0_tellCrossesOf_2 p0 k n v10 w55)) (fun (j55_9 : GS → Option (GS)) =>
    if y7 = 0 then
    j55_9 w2
    else
    g_bind (g_X9_isWithin y3 (0 : Int32) (47 : Int32)) (fun (y12 : Int32) =>
    if y12 = 0 then
    j55_9 w2
    else
    g_in y3 48 (
    g_let (cL_told_set w2 (upd (cL_told w2) y3.toNatClampNeg (2 : Int32))) (fun (u16 : GS) =>
    j55_9 u16)))))))))
def g_X0_tellCrossesOf (u : GS) (p0 : Int32) : Option (GS) :=
    lp_X0_tellCrossesOf_2 p0 (fun (w2 : GS)  => some w2) FU (0 : Int32) u

def lp_X0_tellCrosses_2 (p0 : Int32) (k : GS → Option (GS)) : Nat → Int32 → GS → Option (GS)
  | 0, _, _ => none
  | n + 1, x3_2, w2 =>
    if (8 : Int32) ≤ x3_2 then
    k w2
    else
    g_let (fun (w31 : GS) => g_let (x3_2 + 1) (fun (v3 : Int32) =>
    lp_X0_tellCrosses_2 p0 k n v3 w31)) (fun (j31_2 : GS → Option (GS)) =>
    if (cB_count w2) ≤ x3_2 then
    j31_2 w2
    else
    g_bind (g_X0_isRunning w2 x3_2 p0) (fun (y5 : Int32) =>
    if y5 = 0 then
    j31_2 w2
    else
    g_bind (g_X0_tellCrossesOf w2 x3_2) (fun (y8 : GS) =>
    j31_2 y8)))
def g_X0_tellCrosses (u : GS) (p0 : Int32) : Option (GS) :=
    lp_X0_tellCrosses_2 p0 (fun (w2 : GS)  => some w2) FU (0 : Int32) u

def g_X3_isAheadOfCross_t (u : GS) (p0 : Int32) : Option (Int32) :=
    g_let (p0 + (4 : Int32)) (fun (v1 : Int32) =>
    g_bind (g_X9_isWithin v1 (0 : Int32) (47 : Int32)) (fun (y2 : Int32) =>
    if y2 = 0 then
    some (0 : Int32)
    else
    g_in v1 48 (
    if (cL_told u v1.toNatClampNeg) = (2 : Int32) then
    some (1 : Int32)
    else
    some (0 : Int32))))

def lp_X3_setAnew_3 (k : GS → Option (GS)) : Nat → Int32 → GS → Option (GS)
  | 0, _, _ => none
  | n + 1, x5_3, w3 =>
    if (48 : Int32) ≤ x5_3 then
    k w3
    else
    g_in x5_3 48 (
    g_let (cL_told_set w3 (upd (cL_told w3) x5_3.toNatClampNeg (0 : Int32))) (fun (u3 : GS) =>
    g_let (x5_3 + 1) (fun (v4 : Int32) =>
    lp_X3_setAnew_3 k n v4 u3)))
def lp_X3_setAnew_53 (k : GS → Option (GS)) : Nat → Int32 → GS → Option (GS)
  | 0, _, _ => none
  | n + 1, x5_53, w53 =>
    if (48 : Int32) ≤ x5_53 then
    k w53
    else
    g_in x5_53 48 (
    g_let (fun (w85 : GS) => g_let (x5_53 + 1) (fun (v14 : Int32) =>
    lp_X3_setAnew_53 k n v14 w85)) (fun (j85_13 : GS → Option (GS)) =>
    if (cL_orders w53 x5_53.toNatClampNeg) = (-1 : Int32) then
    j85_13 w53
    else
    g_in x5_53 48 (
    g_in x5_53 48 (
    g_let (cL_told_set w53 (upd (cL_told w53) x5_53.toNatClampNeg (cL_orders w53 x5_53.toNatClampNeg))) (fun (u18 : GS) =>
    j85_13 u18)))))
def lp_X3_setAnew_94 (k : GS → Option (GS)) : Nat → Int32 → GS → Option (GS)
  | 0, _, _ => none
  | n + 1, x5_94, w94 =>
    if (48 : Int32) ≤ x5_94 then
    k w94
    else
    g_in x5_94 48 (
    g_let (fun (z0_140 : Int32) => g_in x5_94 48 (
    g_let (cL_shown_set w94 (upd (cL_shown w94) x5_94.toNatClampNeg z0_140)) (fun (u23 : GS) =>
    g_let (x5_94 + 1) (fun (v24 : Int32) =>
    lp_X3_setAnew_94 k n v24 u23)))) (fun (j140_21 : Int32 → Option (GS)) =>
    g_let (fun (_ : Unit) => g_in x5_94 48 (
    j140_21 (cL_told w94 x5_94.toNatClampNeg))) (fun (j133_25 : Unit → Option (GS)) =>
    if (cL_told w94 x5_94.toNatClampNeg) = 0 then
    g_bind (g_X3_isAheadOfCross_t w94 x5_94) (fun (y28 : Int32) =>
    if y28 = 0 then
    j133_25 ()
    else
    j140_21 (1 : Int32))
    else
    j133_25 ())))
def g_X3_setAnew (u : GS) (p0 : Int32) : Option (GS) :=
    lp_X3_setAnew_3 (fun (w3 : GS)  => g_bind (g_X6_tellCrosses w3) (fun (y5 : GS) =>
    g_bind (g_X2_tellCrosses y5) (fun (y7 : GS) =>
    g_bind (g_X0_tellCrosses y7 p0) (fun (y9 : GS) =>
    lp_X3_setAnew_53 (fun (w53 : GS)  => lp_X3_setAnew_94 (fun (w94 : GS)  => some w94) FU (0 : Int32) w53) FU (0 : Int32) y9)))) FU (0 : Int32) u

def g_X9_setLaneSigns (u : GS) : Option (GS) :=
    g_bind (g_X3_setAnew u (c_minute u)) (fun (y1 : GS) =>
    some y1)

def lp_X7_areLawful_2 (u : GS) (k : Unit → Option (Int32)) : Nat → Int32 → Option (Int32)
  | 0, _ => none
  | n + 1, x1_2 =>
    if (12 : Int32) ≤ (x1_2 + (1 : Int32)) then
    k ()
    else
    g_in x1_2 12 (
    g_in (x1_2 + (1 : Int32)) 12 (
    if (cS_shown u x1_2.toNatClampNeg) ≤ ((cS_shown u (x1_2 + (1 : Int32)).toNatClampNeg) + (20 : Int32)) then
    g_let (x1_2 + 1) (fun (v5 : Int32) =>
    lp_X7_areLawful_2 u k n v5)
    else
    some (0 : Int32)))
def g_X7_areLawful (u : GS) : Option (Int32) :=
    lp_X7_areLawful_2 u (fun (_ : Unit) => some (1 : Int32)) FU (0 : Int32)

def g_X3_isAheadOfCross_s (u : GS) (p0 : Int32) : Option (Int32) :=
    g_let (p0 + (4 : Int32)) (fun (v1 : Int32) =>
    g_bind (g_X9_isWithin v1 (0 : Int32) (47 : Int32)) (fun (y2 : Int32) =>
    if y2 = 0 then
    some (0 : Int32)
    else
    g_in v1 48 (
    if (cL_shown u v1.toNatClampNeg) = (2 : Int32) then
    some (1 : Int32)
    else
    some (0 : Int32))))

def lp_X3_areLawful_2 (u : GS) (k : Unit → Option (Int32)) : Nat → Int32 → Option (Int32)
  | 0, _ => none
  | n + 1, x1_2 =>
    if (48 : Int32) ≤ x1_2 then
    k ()
    else
    g_in x1_2 48 (
    g_let (fun (_ : Unit) => g_let (x1_2 + 1) (fun (v4 : Int32) =>
    lp_X3_areLawful_2 u k n v4)) (fun (j30_3 : Unit → Option (Int32)) =>
    if (cL_shown u x1_2.toNatClampNeg) = 0 then
    g_bind (g_X3_isAheadOfCross_s u x1_2) (fun (y6 : Int32) =>
    if y6 = 0 then
    j30_3 ()
    else
    some (0 : Int32))
    else
    j30_3 ()))
def g_X3_areLawful (u : GS) : Option (Int32) :=
    lp_X3_areLawful_2 u (fun (_ : Unit) => some (1 : Int32)) FU (0 : Int32)

def g_X9_isLawful (u : GS) : Option (Int32 × GS) :=
    g_bind (g_X9_setLaneSigns u) (fun (y1 : GS) =>
    g_bind (g_X7_areLawful y1) (fun (y3 : Int32) =>
    if y3 = 0 then
    some ((0 : Int32), y1)
    else
    g_bind (g_X3_areLawful y1) (fun (y6 : Int32) =>
    if y6 = 0 then
    some ((0 : Int32), y1)
    else
    some ((1 : Int32), y1))))

def lp_X8_mostIn_16 (u : GS) (p0 : Int32) (k : Int32 → Option (Int32)) : Nat → Int32 → Int32 → Option (Int32)
  | 0, _, _ => none
  | n + 1, x2_16, x3_16 =>
    if (4 : Int32) ≤ x3_16 then
    k x2_16
    else
    g_in ((p0 * (4 : Int32)) + x3_16) 48 (
    g_let (cT_held u ((p0 * (4 : Int32)) + x3_16).toNatClampNeg) (fun (v5 : Int32) =>
    g_let (fun (z0_45 : Int32) => g_let (x3_16 + 1) (fun (v7 : Int32) =>
    lp_X8_mostIn_16 u p0 k n z0_45 v7)) (fun (j45_6 : Int32 → Option (Int32)) =>
    if v5 ≤ x2_16 then
    j45_6 x2_16
    else
    j45_6 v5)))
def g_X8_mostIn (u : GS) (p0 : Int32) : Option (Int32) :=
    if p0 < 0 then
    some (0 : Int32)
    else
    if p0 < (12 : Int32) then
    lp_X8_mostIn_16 u p0 (fun (x2_16 : Int32)  => some x2_16) FU (0 : Int32) (0 : Int32)
    else
    some (0 : Int32)

def g_X8_speedAt (u : GS) (p0 : Int32) : Option (Int32) :=
    g_bind (g_X8_mostIn u p0) (fun (y1 : Int32) =>
    some ((120 : Int32) - ((5 : Int32) * y1)))

def lp_X1_guessAt_8 (u : GS) (p0 : Int32) (k : Int32 → Int32 → Option (Int32)) : Nat → Int32 → Int32 → Int32 → Option (Int32)
  | 0, _, _, _ => none
  | n + 1, x3_8, x4_8, x5_8 =>
    if (12 : Int32) ≤ x5_8 then
    k x3_8 x4_8
    else
    g_let (fun (x3_53 : Int32) (x4_53 : Int32) => g_let (x5_8 + 1) (fun (v3 : Int32) =>
    lp_X1_guessAt_8 u p0 k n x3_53 x4_53 v3)) (fun (j53_2 : Int32 → Int32 → Option (Int32)) =>
    g_let (fun (_ : Unit) => g_in x5_8 12 (
    if (cD_is u x5_8.toNatClampNeg) = 0 then
    g_bind (g_X8_speedAt u x5_8) (fun (y7 : Int32) =>
    g_let (x3_8 + y7) (fun (v9 : Int32) =>
    g_let (x4_8 + 1) (fun (v10 : Int32) =>
    j53_2 v9 v10)))
    else
    j53_2 x3_8 x4_8)) (fun (j31_4 : Unit → Option (Int32)) =>
    if x5_8 = (p0 - (1 : Int32)) then
    j31_4 ()
    else
    if x5_8 = (p0 + (1 : Int32)) then
    j31_4 ()
    else
    j53_2 x3_8 x4_8))
def g_X1_guessAt (u : GS) (p0 : Int32) : Option (Int32) :=
    lp_X1_guessAt_8 u p0 (fun (x3_8 : Int32) (x4_8 : Int32)  => if x4_8 = 0 then
    some (-1 : Int32)
    else
    g_nz x4_8 (
    some (x3_8 / x4_8))) FU (0 : Int32) (0 : Int32) (0 : Int32)

def g_X1_beliefAt (u : GS) (p0 : Int32) : Option (Int32) :=
    g_bind (g_X9_isWithin p0 (0 : Int32) (11 : Int32)) (fun (y1 : Int32) =>
    if y1 = 0 then
    some (-1 : Int32)
    else
    g_in p0 12 (
    if (cD_is u p0.toNatClampNeg) = 0 then
    g_bind (g_X8_speedAt u p0) (fun (y14 : Int32) =>
    some y14)
    else
    g_bind (g_X1_guessAt u p0) (fun (y6 : Int32) =>
    g_in p0 12 (
    if (cD_is u p0.toNatClampNeg) = (2 : Int32) then
    some y6
    else
    g_in p0 12 (
    g_let (cD_stuckAt u p0.toNatClampNeg) (fun (v11 : Int32) =>
    if y6 = (-1 : Int32) then
    some v11
    else
    if (if 0 ≤ (y6 - v11) then (y6 - v11) else 0 - (y6 - v11)) ≤ (30 : Int32) then
    some v11
    else
    some y6))))))

def lp_X9_pattern_2 (u : GS) (k : Unit → Option (Int32)) : Nat → Int32 → Option (Int32)
  | 0, _ => none
  | n + 1, x1_2 =>
    if (11 : Int32) ≤ x1_2 then
    k ()
    else
    g_bind (g_X1_beliefAt u x1_2) (fun (y2 : Int32) =>
    g_let (fun (_ : Unit) => g_let (x1_2 + 1) (fun (v5 : Int32) =>
    lp_X9_pattern_2 u k n v5)) (fun (j53_4 : Unit → Option (Int32)) =>
    if y2 = (-1 : Int32) then
    j53_4 ()
    else
    if (40 : Int32) ≤ y2 then
    j53_4 ()
    else
    g_bind (g_X1_beliefAt u (x1_2 + (1 : Int32))) (fun (y8 : Int32) =>
    if y8 < (80 : Int32) then
    j53_4 ()
    else
    some x1_2)))
def g_X9_pattern (u : GS) : Option (Int32) :=
    lp_X9_pattern_2 u (fun (_ : Unit) => some (-1 : Int32)) FU (0 : Int32)

def g_X9_needIndex (u : GS) (p0 : Int32) : Option (g_X × GS) :=
    if p0 = 0 then
    some (.inr "java/lang/IndexOutOfBoundsException", u)
    else
    some (.inl 0, u)

def g_X9_needSection (u : GS) (p0 : Int32) : Option (g_X × GS) :=
    g_bind (g_X9_isWithin p0 (0 : Int32) (11 : Int32)) (fun (y1 : Int32) =>
    g_xb (g_X9_needIndex u y1) id (fun (y3 : Int32) (u4 : GS) =>
    some (.inl 0, u4)))

def g_X9_needPlace (u : GS) (p0 : Int32) (p1 : Int32) : Option (g_X × GS) :=
    g_xb (g_X9_needSection u p0) id (fun (y1 : Int32) (u2 : GS) =>
    g_bind (g_X9_isWithin p1 (0 : Int32) (3 : Int32)) (fun (y4 : Int32) =>
    g_xb (g_X9_needIndex u2 y4) id (fun (y6 : Int32) (u7 : GS) =>
    some (.inl 0, u7))))

def g_X9_sign (u : GS) (p0 : Int32) (p1 : Int32) : Option (g_X × GS) :=
    g_xb (g_X9_needPlace u p0 p1) id (fun (y1 : Int32) (u2 : GS) =>
    g_bind (g_X9_setLaneSigns u2) (fun (y4 : GS) =>
    g_bind (g_X9_placeOf p0 p1) (fun (y6 : Int32) =>
    g_in y6 48 (
    some (.inl (cL_shown y4 y6.toNatClampNeg), y4)))))

def g_X9_needArgument (u : GS) (p0 : Int32) : Option (g_X × GS) :=
    if p0 = 0 then
    some (.inr "java/lang/IllegalArgumentException", u)
    else
    some (.inl 0, u)

def g_X5_isKept (p0 : Int32) (p1 : Int32) : Option (Int32) :=
    g_bind (g_X9_isWithin p0 ((p1 - (60 : Int32)) + (1 : Int32)) p1) (fun (y1 : Int32) =>
    g_bo y1 (some y1))

def g_X9_needState (u : GS) (p0 : Int32) : Option (g_X × GS) :=
    if p0 = 0 then
    some (.inr "java/lang/IllegalStateException", u)
    else
    some (.inl 0, u)

def g_J9_floorMod_7cf53 (p0 : Int32) (p1 : Int32) : Option (Int32) :=
    g_nz p1 (
    g_let (p0 - p0 / p1 * p1) (fun (v2 : Int32) =>
    if 0 ≤ (p0 ^^^ p1) then
    some v2
    else
    if v2 = 0 then
    some v2
    else
    some (v2 + p1)))

def g_X5_slotOf (p0 : Int32) (p1 : Int32) : Option (Int32) :=
    g_bind (g_J9_floorMod_7cf53 p0 (60 : Int32)) (fun (y1 : Int32) =>
    some ((y1 * (12 : Int32)) + p1))

def g_X5_laneSign (u : GS) (p0 : Int32) (p1 : Int32) (p2 : Int32) : Option (Int32) :=
    g_bind (g_X5_slotOf p0 p1) (fun (y1 : Int32) =>
    g_in y1 720 (
    some (((cK_kept u y1.toNatClampNeg) >>> (((2 : Int32) * p2) &&& 31)) &&& (3 : Int32))))

def g_X5_speedSign (u : GS) (p0 : Int32) (p1 : Int32) : Option (Int32) :=
    g_bind (g_X5_slotOf p0 p1) (fun (y1 : Int32) =>
    g_in y1 720 (
    some ((cK_kept u y1.toNatClampNeg) >>> ((8 : Int32) &&& 31))))

def g_X9_proof (u : GS) (p0 : Int32) (p1 : Int32) (p2 : Int32) : Option (g_X × GS) :=
    g_xb (g_X9_needSection u p1) id (fun (y1 : Int32) (u2 : GS) =>
    g_let (fun (z0_13 : Int32) => g_xb (g_X9_needArgument u2 z0_13) id (fun (y5 : Int32) (u6 : GS) =>
    g_bind (g_X9_isWithin p2 (0 : Int32) (4 : Int32)) (fun (y8 : Int32) =>
    g_xb (g_X9_needArgument u6 y8) id (fun (y10 : Int32) (u11 : GS) =>
    g_bind (g_X5_isKept p0 (c_minute u11)) (fun (y13 : Int32) =>
    g_xb (g_X9_needState u11 y13) id (fun (y15 : Int32) (u16 : GS) =>
    if p2 = 0 then
    g_bind (g_X5_speedSign u16 p0 p1) (fun (y21 : Int32) =>
    some (.inl y21, u16))
    else
    g_bind (g_X5_laneSign u16 p0 p1 (p2 - (1 : Int32))) (fun (y19 : Int32) =>
    some (.inl y19, u16)))))))) (fun (j13_4 : Int32 → Option (g_X × GS)) =>
    if p0 < 0 then
    j13_4 (0 : Int32)
    else
    j13_4 (1 : Int32)))

def g_X9_section (u : GS) (p0 : Int32) (p1 : Int32) : Option (g_X × GS) :=
    g_xb (g_X9_needSection u p0) id (fun (y1 : Int32) (u2 : GS) =>
    g_bind (g_X9_isWithin p1 (0 : Int32) (5 : Int32)) (fun (y4 : Int32) =>
    g_xb (g_X9_needArgument u2 y4) id (fun (y6 : Int32) (u7 : GS) =>
    if p1 = 0 then
    g_bind (g_X8_speedAt u7 p0) (fun (y9 : Int32) =>
    some (.inl y9, u7))
    else
    if p1 = 1 then
    g_bind (g_X1_beliefAt u7 p0) (fun (y11 : Int32) =>
    some (.inl y11, u7))
    else
    if p1 = 2 then
    g_bind (g_X1_guessAt u7 p0) (fun (y13 : Int32) =>
    some (.inl y13, u7))
    else
    if p1 = 3 then
    g_in p0 12 (
    some (.inl (cS_shown u7 p0.toNatClampNeg), u7))
    else
    if p1 = 4 then
    g_in p0 12 (
    if (cT_broken u7 p0.toNatClampNeg) = 0 then
    some (.inl (0 : Int32), u7)
    else
    some (.inl (1 : Int32), u7))
    else
    g_in p0 12 (
    some (.inl (cD_is u7 p0.toNatClampNeg), u7)))))

def g_X9_holds (u : GS) (p0 : Int32) (p1 : Int32) : Option (g_X × GS) :=
    g_xb (g_X9_needPlace u p0 p1) id (fun (y1 : Int32) (u2 : GS) =>
    g_bind (g_X9_placeOf p0 p1) (fun (y4 : Int32) =>
    g_in y4 48 (
    some (.inl (cT_held u2 y4.toNatClampNeg), u2))))

def lp_X8_countOnRoad_4 (u : GS) (k : Int32 → Option (Int32)) : Nat → Int32 → Int32 → Option (Int32)
  | 0, _, _ => none
  | n + 1, x1_4, x2_4 =>
    if (48 : Int32) ≤ x2_4 then
    k x1_4
    else
    g_in x2_4 48 (
    g_let (x1_4 + (cT_held u x2_4.toNatClampNeg)) (fun (v3 : Int32) =>
    g_let (x2_4 + 1) (fun (v4 : Int32) =>
    lp_X8_countOnRoad_4 u k n v3 v4)))
def g_X8_countOnRoad (u : GS) : Option (Int32) :=
    lp_X8_countOnRoad_4 u (fun (x1_4 : Int32)  => some x1_4) FU (0 : Int32) (0 : Int32)

def g_X9_vehicles (u : GS) (p0 : Int32) : Option (g_X × GS) :=
    g_bind (g_X9_isWithin p0 (0 : Int32) (3 : Int32)) (fun (y1 : Int32) =>
    g_xb (g_X9_needArgument u y1) id (fun (y3 : Int32) (u4 : GS) =>
    if p0 = 0 then
    some (.inl (cT_came u4), u4)
    else
    if p0 = 1 then
    g_bind (g_X8_countOnRoad u4) (fun (y6 : Int32) =>
    some (.inl y6, u4))
    else
    if p0 = 2 then
    some (.inl (cT_waiting u4), u4)
    else
    some (.inl (cT_gone u4), u4)))

def lp_X6_shutAll_4 (k : Int32 → GS → Option (Int32 × GS)) : Nat → Int32 → Int32 → GS → Option (Int32 × GS)
  | 0, _, _, _ => none
  | n + 1, x1_4, x2_4, w4 =>
    if (12 : Int32) ≤ x2_4 then
    k x1_4 w4
    else
    g_in x2_4 12 (
    g_let (fun (x1_29 : Int32) (w29 : GS) => g_let (x2_4 + 1) (fun (v4 : Int32) =>
    lp_X6_shutAll_4 k n x1_29 v4 w29)) (fun (j29_3 : Int32 → GS → Option (Int32 × GS)) =>
    if (cH_open w4 x2_4.toNatClampNeg) = 0 then
    j29_3 x1_4 w4
    else
    g_in x2_4 12 (
    g_let (cH_open_set w4 (upd (cH_open w4) x2_4.toNatClampNeg (vp_nar .boolean (0 : Int32)))) (fun (u7 : GS) =>
    g_let (x1_4 + 1) (fun (v8 : Int32) =>
    j29_3 v8 u7)))))
def g_X6_shutAll (u : GS) : Option (Int32 × GS) :=
    lp_X6_shutAll_4 (fun (x1_4 : Int32) (w4 : GS)  => some (x1_4, w4)) FU (0 : Int32) (0 : Int32) u

def g_X9_stop (u : GS) (p0 : Int32) (p1 : Int32) : Option (g_X × GS) :=
    g_xb (g_X9_needPlace u p0 p1) id (fun (y1 : Int32) (u2 : GS) =>
    g_bind (g_X9_placeOf p0 p1) (fun (y4 : Int32) =>
    g_in y4 48 (
    g_let (fun (z0_28 : Int32) => g_xb (g_X9_needState u2 z0_28) id (fun (y8 : Int32) (u9 : GS) =>
    g_in y4 48 (
    g_let (cT_stopped_set u9 (upd (cT_stopped u9) y4.toNatClampNeg (vp_nar .boolean (1 : Int32)))) (fun (u12 : GS) =>
    if p1 = 0 then
    g_in p0 12 (
    g_let (cH_foundClearAt_set u12 (upd (cH_foundClearAt u12) p0.toNatClampNeg (-1000 : Int32))) (fun (u15 : GS) =>
    g_bind (g_X6_shutAll u15) (fun (y16 : Int32 × GS) =>
    some (.inl 0, y16.2))))
    else
    some (.inl 0, u12))))) (fun (j28_7 : Int32 → Option (g_X × GS)) =>
    if (cT_stopped u2 y4.toNatClampNeg) = 0 then
    j28_7 (1 : Int32)
    else
    j28_7 (0 : Int32)))))

def g_X7_wantBy (p0 : Int32) : Option (Int32) :=
    if p0 = (-1 : Int32) then
    some (60 : Int32)
    else
    if (40 : Int32) ≤ p0 then
    if (60 : Int32) ≤ p0 then
    if (80 : Int32) ≤ p0 then
    some (120 : Int32)
    else
    some (80 : Int32)
    else
    some (60 : Int32)
    else
    some (40 : Int32)

def g_X7_wantAt (u : GS) (p0 : Int32) (p1 : Int32) : Option (Int32) :=
    g_in p0 12 (
    if (cS_limits u p0.toNatClampNeg) = (-1 : Int32) then
    g_bind (g_X9_isWithin (cS_weather u) (0 : Int32) (3 : Int32)) (fun (y3 : Int32) =>
    g_let (fun (z0_42 : Int32) => g_bind (g_X7_wantBy p1) (fun (y6 : Int32) =>
    some (if z0_42 < y6 then z0_42 else y6))) (fun (j42_5 : Int32 → Option (Int32)) =>
    if y3 = 0 then
    j42_5 (120 : Int32)
    else
    g_in (cS_weather u) 4 (
    j42_5 (wlF (cS_weather u).toNatClampNeg))))
    else
    g_in p0 12 (
    some (cS_limits u p0.toNatClampNeg)))

def g_X7_staysBelow (u : GS) (p0 : Int32) (p1 : Int32) (p2 : Int32) : Option (Int32) :=
    g_in p1 12 (
    if (cS_limits u p1.toNatClampNeg) = (-1 : Int32) then
    g_in p1 12 (
    if p0 ≤ (cS_shown u p1.toNatClampNeg) then
    some (0 : Int32)
    else
    g_in p1 12 (
    if (3 : Int32) ≤ (p2 - (cS_loweredAt u p1.toNatClampNeg)) then
    some (0 : Int32)
    else
    some (1 : Int32)))
    else
    some (0 : Int32))

def lp_X7_setAnew_4 (p0 : Int32) (k : GS → Option (GS)) : Nat → Int32 → GS → Option (GS)
  | 0, _, _ => none
  | n + 1, x4_4, w4 =>
    if x4_4 < 0 then
    k w4
    else
    g_bind (g_X1_beliefAt w4 x4_4) (fun (y2 : Int32) =>
    g_bind (g_X7_wantAt w4 x4_4 y2) (fun (y4 : Int32) =>
    g_bind (g_X7_staysBelow w4 y4 x4_4 p0) (fun (y6 : Int32) =>
    g_let (fun (z0_48 : Int32) => g_let (fun (x6_78 : Int32) => g_in x4_4 12 (
    g_let (fun (w98 : GS) => g_in x4_4 12 (
    g_let (cS_shown_set w98 (upd (cS_shown w98) x4_4.toNatClampNeg x6_78)) (fun (u13 : GS) =>
    g_let (x4_4 + (-1)) (fun (v14 : Int32) =>
    lp_X7_setAnew_4 p0 k n v14 u13)))) (fun (j98_11 : GS → Option (GS)) =>
    if (cS_shown w4 x4_4.toNatClampNeg) ≤ x6_78 then
    j98_11 w4
    else
    g_in x4_4 12 (
    g_let (cS_loweredAt_set w4 (upd (cS_loweredAt w4) x4_4.toNatClampNeg p0)) (fun (u17 : GS) =>
    j98_11 u17))))) (fun (j78_9 : Int32 → Option (GS)) =>
    if (12 : Int32) ≤ (x4_4 + (1 : Int32)) then
    j78_9 z0_48
    else
    g_in (x4_4 + (1 : Int32)) 12 (
    g_let (if ((cS_shown w4 (x4_4 + (1 : Int32)).toNatClampNeg) + (20 : Int32)) < z0_48 then ((cS_shown w4 (x4_4 + (1 : Int32)).toNatClampNeg) + (20 : Int32)) else z0_48) (fun (v20 : Int32) =>
    j78_9 v20)))) (fun (j48_8 : Int32 → Option (GS)) =>
    if y6 = 0 then
    j48_8 y4
    else
    g_in x4_4 12 (
    j48_8 (cS_shown w4 x4_4.toNatClampNeg))))))
def g_X7_setAnew (u : GS) (p0 : Int32) : Option (GS) :=
    lp_X7_setAnew_4 p0 (fun (w4 : GS)  => some w4) FU (11 : Int32) u

def lp_X5_keep_19 (x4_3 : Int32) (w3 : GS) (k : Int32 → Option (GS)) : Nat → Int32 → Int32 → Option (GS)
  | 0, _, _ => none
  | n + 1, x5_19, x6_19 =>
    if x6_19 < 0 then
    k x5_19
    else
    g_bind (g_X9_placeOf x4_3 x6_19) (fun (y5 : Int32) =>
    g_in y5 48 (
    g_let ((x5_19 * (4 : Int32)) + (cL_shown w3 y5.toNatClampNeg)) (fun (v8 : Int32) =>
    g_let (x6_19 + (-1)) (fun (v9 : Int32) =>
    lp_X5_keep_19 x4_3 w3 k n v8 v9))))
def lp_X5_keep_3 (p0 : Int32) (k : GS → Option (GS)) : Nat → Int32 → GS → Option (GS)
  | 0, _, _ => none
  | n + 1, x4_3, w3 =>
    if (12 : Int32) ≤ x4_3 then
    k w3
    else
    g_in x4_3 12 (
    g_let (cS_shown w3 x4_3.toNatClampNeg) (fun (v3 : Int32) =>
    lp_X5_keep_19 x4_3 w3 (fun (x5_19 : Int32)  => g_bind (g_X5_slotOf p0 x4_3) (fun (y10 : Int32) =>
    g_in y10 720 (
    g_let (cK_kept_set w3 (upd (cK_kept w3) y10.toNatClampNeg x5_19)) (fun (u13 : GS) =>
    g_let (x4_3 + 1) (fun (v14 : Int32) =>
    lp_X5_keep_3 p0 k n v14 u13))))) FU v3 (3 : Int32)))
def g_X5_keep (u : GS) (p0 : Int32) : Option (GS) :=
    lp_X5_keep_3 p0 (fun (w3 : GS)  => some w3) FU (0 : Int32) u

def lp_L_isShown_114 (p0 : Int32) (x3_31 : Int32) (k : Int32 → GS → Option (g_X × GS)) : Nat → Int32 → Int32 → GS → Option (g_X × GS)
  | 0, _, _, _ => none
  | n + 1, x2_114, x5_114, w114 =>
    if (4 : Int32) ≤ x5_114 then
    k x2_114 w114
    else
    g_let (fun (z0_149 : Int32) (w149 : GS) => g_let (x5_114 + 1) (fun (v13 : Int32) =>
    lp_L_isShown_114 p0 x3_31 k n z0_149 v13 w149)) (fun (j149_12 : Int32 → GS → Option (g_X × GS)) =>
    g_let (fun (w148 : GS) => j149_12 (0 : Int32) w148) (fun (j148_14 : GS → Option (g_X × GS)) =>
    if x2_114 = 0 then
    j148_14 w114
    else
    g_xb (g_X9_proof w114 p0 x3_31 ((1 : Int32) + x5_114)) id (fun (y16 : Int32) (u17 : GS) =>
    g_xb (g_X9_sign u17 x3_31 x5_114) id (fun (y19 : Int32) (u20 : GS) =>
    if y16 = y19 then
    j149_12 (1 : Int32) u20
    else
    j148_14 u20))))
def lp_L_isShown_31 (p0 : Int32) (k : Int32 → GS → Option (g_X × GS)) : Nat → Int32 → Int32 → GS → Option (g_X × GS)
  | 0, _, _, _ => none
  | n + 1, x2_31, x3_31, w31 =>
    if (12 : Int32) ≤ x3_31 then
    k x2_31 w31
    else
    if x2_31 = 0 then
    k x2_31 w31
    else
    g_xb (g_X9_section w31 x3_31 (3 : Int32)) id (fun (y4 : Int32) (u5 : GS) =>
    g_xb (g_X9_proof u5 p0 x3_31 (0 : Int32)) id (fun (y7 : Int32) (u8 : GS) =>
    g_let (fun (z0_110 : Int32) (w110 : GS) => lp_L_isShown_114 p0 x3_31 (fun (x2_114 : Int32) (w114 : GS)  => g_let (x3_31 + 1) (fun (v23 : Int32) =>
    lp_L_isShown_31 p0 k n x2_114 v23 w114)) FU z0_110 (0 : Int32) w110) (fun (j110_10 : Int32 → GS → Option (g_X × GS)) =>
    g_let (fun (w109 : GS) => j110_10 (0 : Int32) w109) (fun (j109_24 : GS → Option (g_X × GS)) =>
    if y7 = y4 then
    if y4 < (40 : Int32) then
    j109_24 u8
    else
    if (120 : Int32) < y4 then
    j109_24 u8
    else
    if (y4 - y4 / (20 : Int32) * (20 : Int32)) = 0 then
    g_let (fun (w105 : GS) => j110_10 (1 : Int32) w105) (fun (j105_29 : GS → Option (g_X × GS)) =>
    if x3_31 = (11 : Int32) then
    j105_29 u8
    else
    g_xb (g_X9_section u8 (x3_31 + (1 : Int32)) (3 : Int32)) id (fun (y31 : Int32) (u32 : GS) =>
    if (y31 + (20 : Int32)) < y4 then
    j109_24 u32
    else
    j105_29 u32))
    else
    j109_24 u8
    else
    j109_24 u8))))
def g_L_isShown (u : GS) (p0 : Int32) : Option (g_X × GS) :=
    g_let (fun (z0_28 : Int32) (w28 : GS) => lp_L_isShown_31 p0 (fun (x2_31 : Int32) (w31 : GS)  => g_bo x2_31 (some (.inl x2_31, w31))) FU z0_28 (0 : Int32) w28) (fun (j28_1 : Int32 → GS → Option (g_X × GS)) =>
    g_let (fun (w23 : GS) => j28_1 (1 : Int32) w23) (fun (j23_35 : GS → Option (g_X × GS)) =>
    if p0 < (60 : Int32) then
    j23_35 u
    else
    none))

def lp_L_isRoad_25 (x3_9 : Int32) (k : Int32 → Int32 → GS → Option (g_X × GS)) : Nat → Int32 → Int32 → Int32 → GS → Option (g_X × GS)
  | 0, _, _, _, _ => none
  | n + 1, x1_25, x4_25, x5_25, w25 =>
    if (4 : Int32) ≤ x5_25 then
    k x1_25 x4_25 w25
    else
    g_xb (g_X9_holds w25 x3_9 x5_25) id (fun (y7 : Int32) (u8 : GS) =>
    g_let (x1_25 + y7) (fun (v10 : Int32) =>
    g_let (fun (z0_59 : Int32) => g_let (x5_25 + 1) (fun (v12 : Int32) =>
    lp_L_isRoad_25 x3_9 k n v10 z0_59 v12 u8)) (fun (j59_11 : Int32 → Option (g_X × GS)) =>
    if y7 ≤ x4_25 then
    j59_11 x4_25
    else
    j59_11 y7)))
def lp_L_isRoad_9 (k : Int32 → Int32 → GS → Option (g_X × GS)) : Nat → Int32 → Int32 → Int32 → GS → Option (g_X × GS)
  | 0, _, _, _, _ => none
  | n + 1, x1_9, x2_9, x3_9, w9 =>
    if (12 : Int32) ≤ x3_9 then
    k x1_9 x2_9 w9
    else
    if x2_9 = 0 then
    k x1_9 x2_9 w9
    else
    lp_L_isRoad_25 x3_9 (fun (x1_25 : Int32) (x4_25 : Int32) (w25 : GS)  => g_let (fun (z0_146 : Int32) (w146 : GS) => g_let (x3_9 + 1) (fun (v15 : Int32) =>
    lp_L_isRoad_9 k n x1_25 z0_146 v15 w146)) (fun (j146_14 : Int32 → GS → Option (g_X × GS)) =>
    g_let (fun (w145 : GS) => j146_14 (0 : Int32) w145) (fun (j145_16 : GS → Option (g_X × GS)) =>
    if (20 : Int32) < x4_25 then
    j145_16 w25
    else
    g_xb (g_X9_section w25 x3_9 (0 : Int32)) id (fun (y18 : Int32) (u19 : GS) =>
    if y18 = ((120 : Int32) - ((5 : Int32) * x4_25)) then
    g_xb (g_X9_section u19 x3_9 (4 : Int32)) id (fun (y22 : Int32) (u23 : GS) =>
    if y22 < 0 then
    j145_16 u23
    else
    g_xb (g_X9_section u23 x3_9 (1 : Int32)) id (fun (y26 : Int32) (u27 : GS) =>
    if y26 < (-1 : Int32) then
    j145_16 u27
    else
    g_xb (g_X9_section u27 x3_9 (1 : Int32)) id (fun (y30 : Int32) (u31 : GS) =>
    if (120 : Int32) < y30 then
    j145_16 u31
    else
    g_xb (g_X9_section u31 x3_9 (2 : Int32)) id (fun (y34 : Int32) (u35 : GS) =>
    if y34 < (-1 : Int32) then
    j145_16 u35
    else
    g_xb (g_X9_section u35 x3_9 (2 : Int32)) id (fun (y38 : Int32) (u39 : GS) =>
    if (120 : Int32) < y38 then
    j145_16 u39
    else
    j146_14 (1 : Int32) u39)))))
    else
    j145_16 u19)))) FU x1_9 (0 : Int32) (0 : Int32) w9
def g_L_isRoad (u : GS) : Option (g_X × GS) :=
    g_bind (g_X9_isLawful u) (fun (y1 : Int32 × GS) =>
    g_let y1.1 (fun (v3 : Int32) =>
    lp_L_isRoad_9 (fun (x1_9 : Int32) (x2_9 : Int32) (w9 : GS)  => if x2_9 = 0 then
    some (.inl (0 : Int32), w9)
    else
    g_xb (g_X9_vehicles w9 (1 : Int32)) id (fun (y43 : Int32) (u44 : GS) =>
    if x1_9 = y43 then
    some (.inl (1 : Int32), u44)
    else
    some (.inl (0 : Int32), u44))) FU (0 : Int32) v3 (0 : Int32) y1.2))
end
section
theorem mw_0 : (Jvm.Cond.selects "RedcrossGantry$Bookings" ⟨"RedcrossGantry$Bookings", "tellCrossesOf", "(I[I)V"⟩ ⟨"RedcrossGantry$Bookings", "tellCrossesOf", "(I[I)V"⟩) ∈ Wall := mwl (k := 0) (by decide +kernel) rfl
theorem mw_2 : (Jvm.Cond.selects "RedcrossGantry" ⟨"RedcrossGantry", "setLaneSigns", "()V"⟩ ⟨"RedcrossGantry", "setLaneSigns", "()V"⟩) ∈ Wall := mwl (k := 2) (by decide +kernel) rfl
theorem mw_16 : (Jvm.Cond.selects "RedcrossGantry$SpeedSigns" ⟨"RedcrossGantry$SpeedSigns", "wantAt", "(II)I"⟩ ⟨"RedcrossGantry$SpeedSigns", "wantAt", "(II)I"⟩) ∈ Wall := mwl (k := 16) (by decide +kernel) rfl
theorem mw_17 : (Jvm.Cond.selects "RedcrossGantry$SpeedSigns" ⟨"RedcrossGantry$SpeedSigns", "staysBelow", "(III)Z"⟩ ⟨"RedcrossGantry$SpeedSigns", "staysBelow", "(III)Z"⟩) ∈ Wall := mwl (k := 17) (by decide +kernel) rfl
theorem mw_18 : (Jvm.Cond.initialized "RedcrossGantryLaw") ∈ Wall := mwl (k := 18) (by decide +kernel) rfl
theorem mw_19 : (Jvm.Cond.initialized "RedcrossGantry") ∈ Wall := mwl (k := 19) (by decide +kernel) rfl
theorem mw_20 : (Jvm.Cond.initialized "RedcrossGantry$Traffic") ∈ Wall := mwl (k := 20) (by decide +kernel) rfl
theorem mw_21 : (Jvm.Cond.initialized "RedcrossGantry$Detectors") ∈ Wall := mwl (k := 21) (by decide +kernel) rfl
theorem mw_22 : (Jvm.Cond.initialized "RedcrossGantry$SpeedSigns") ∈ Wall := mwl (k := 22) (by decide +kernel) rfl
theorem mw_23 : (Jvm.Cond.initialized "RedcrossGantry$LaneSigns") ∈ Wall := mwl (k := 23) (by decide +kernel) rfl
theorem mw_24 : (Jvm.Cond.initialized "RedcrossGantry$Shoulder") ∈ Wall := mwl (k := 24) (by decide +kernel) rfl
theorem mw_25 : (Jvm.Cond.initialized "RedcrossGantry$Incidents") ∈ Wall := mwl (k := 25) (by decide +kernel) rfl
theorem mw_26 : (Jvm.Cond.initialized "RedcrossGantry$Patrols") ∈ Wall := mwl (k := 26) (by decide +kernel) rfl
theorem mw_27 : (Jvm.Cond.initialized "RedcrossGantry$Bookings") ∈ Wall := mwl (k := 27) (by decide +kernel) rfl
theorem mw_28 : (Jvm.Cond.initialized "RedcrossGantry$Proofs") ∈ Wall := mwl (k := 28) (by decide +kernel) rfl
theorem mw_29 : (Jvm.Cond.initialized "java/lang/Math") ∈ Wall := mwl (k := 29) (by decide +kernel) rfl
theorem mw_33 : (Jvm.Cond.initialized "java/lang/IndexOutOfBoundsException") ∈ Wall := mwl (k := 33) (by decide +kernel) rfl
theorem mw_35 : (Jvm.Cond.initialized "java/lang/IllegalStateException") ∈ Wall := mwl (k := 35) (by decide +kernel) rfl
theorem mw_36 : (Jvm.Cond.classLink "RedcrossGantryLaw" (11 : Nat) "RedcrossGantry") ∈ Wall := mwl (k := 36) (by decide +kernel) rfl
theorem mw_37 : (Jvm.Cond.instantiable "RedcrossGantry" (10 : Nat)) ∈ Wall := mwl (k := 37) (by decide +kernel) rfl
theorem mw_38 : (Jvm.Cond.methodLink "RedcrossGantryLaw" (147 : Nat) ({ cls := "RedcrossGantry", name := "<init>", desc := "()V" } : Jvm.MethodName)) ∈ Wall := mwl (k := 38) (by decide +kernel) rfl
theorem mw_39 : (Jvm.Cond.instanceMethod ({ cls := "RedcrossGantry", name := "<init>", desc := "()V" } : Jvm.MethodName)) ∈ Wall := mwl (k := 39) (by decide +kernel) rfl
theorem mw_40 : (Jvm.Cond.code ({ cls := "RedcrossGantry", name := "<init>", desc := "()V" } : Jvm.MethodName) prog_1_method_1_code (1 : Nat) (Option.none : Option Jvm.ClassFile.FieldType)) ∈ Wall := mwl (k := 40) (by decide +kernel) rfl
theorem mw_41 : (Jvm.Cond.methodLink "RedcrossGantry" (1 : Nat) ({ cls := "java/lang/Object", name := "<init>", desc := "()V" } : Jvm.MethodName)) ∈ Wall := mwl (k := 41) (by decide +kernel) rfl
theorem mw_42 : (Jvm.Cond.instanceMethod ({ cls := "java/lang/Object", name := "<init>", desc := "()V" } : Jvm.MethodName)) ∈ Wall := mwl (k := 42) (by decide +kernel) rfl
theorem mw_43 : (Jvm.Cond.code ({ cls := "java/lang/Object", name := "<init>", desc := "()V" } : Jvm.MethodName) object_method_1_code (1 : Nat) (Option.none : Option Jvm.ClassFile.FieldType)) ∈ Wall := mwl (k := 43) (by decide +kernel) rfl
theorem mw_44 : (Jvm.Cond.classLink "RedcrossGantry" (13 : Nat) "RedcrossGantry$Traffic") ∈ Wall := mwl (k := 44) (by decide +kernel) rfl
theorem mw_45 : (Jvm.Cond.instantiable "RedcrossGantry$Traffic" (7 : Nat)) ∈ Wall := mwl (k := 45) (by decide +kernel) rfl
theorem mw_47 : (Jvm.Cond.instanceMethod ({ cls := "RedcrossGantry$Traffic", name := "<init>", desc := "()V" } : Jvm.MethodName)) ∈ Wall := mwl (k := 47) (by decide +kernel) rfl
theorem mw_48 : (Jvm.Cond.code ({ cls := "RedcrossGantry$Traffic", name := "<init>", desc := "()V" } : Jvm.MethodName) prog_10_method_1_code (1 : Nat) (Option.none : Option Jvm.ClassFile.FieldType)) ∈ Wall := mwl (k := 48) (by decide +kernel) rfl
theorem mw_49 : (Jvm.Cond.methodLink "RedcrossGantry$Traffic" (3 : Nat) ({ cls := "java/lang/Object", name := "<init>", desc := "()V" } : Jvm.MethodName)) ∈ Wall := mwl (k := 49) (by decide +kernel) rfl
theorem mw_50 : (Jvm.Cond.fieldLink "RedcrossGantry$Traffic" (9 : Nat) "RedcrossGantry$Traffic" "held" "[I") ∈ Wall := mwl (k := 50) (by decide +kernel) rfl
theorem mw_51 : (Jvm.Cond.fieldLink "RedcrossGantry" (110 : Nat) "RedcrossGantry$Traffic" "held" "[I") ∈ Wall := mwl (k := 51) (by decide +kernel) rfl
theorem mw_52 : (Jvm.Cond.fieldLink "RedcrossGantry$Traffic" (15 : Nat) "RedcrossGantry$Traffic" "stopped" "[Z") ∈ Wall := mwl (k := 52) (by decide +kernel) rfl
theorem mw_53 : (Jvm.Cond.fieldLink "RedcrossGantry" (191 : Nat) "RedcrossGantry$Traffic" "stopped" "[Z") ∈ Wall := mwl (k := 53) (by decide +kernel) rfl
theorem mw_54 : (Jvm.Cond.fieldLink "RedcrossGantry$Traffic" (19 : Nat) "RedcrossGantry$Traffic" "broken" "[Z") ∈ Wall := mwl (k := 54) (by decide +kernel) rfl
theorem mw_55 : (Jvm.Cond.fieldLink "RedcrossGantry" (145 : Nat) "RedcrossGantry$Traffic" "broken" "[Z") ∈ Wall := mwl (k := 55) (by decide +kernel) rfl
theorem mw_56 : (Jvm.Cond.fieldLink "RedcrossGantry$Traffic" (22 : Nat) "RedcrossGantry$Traffic" "demand" "I") ∈ Wall := mwl (k := 56) (by decide +kernel) rfl
theorem mw_58 : (Jvm.Cond.fieldLink "RedcrossGantry$Traffic" (26 : Nat) "RedcrossGantry$Traffic" "came" "I") ∈ Wall := mwl (k := 58) (by decide +kernel) rfl
theorem mw_59 : (Jvm.Cond.fieldLink "RedcrossGantry" (117 : Nat) "RedcrossGantry$Traffic" "came" "I") ∈ Wall := mwl (k := 59) (by decide +kernel) rfl
theorem mw_60 : (Jvm.Cond.fieldLink "RedcrossGantry$Traffic" (29 : Nat) "RedcrossGantry$Traffic" "waiting" "I") ∈ Wall := mwl (k := 60) (by decide +kernel) rfl
theorem mw_61 : (Jvm.Cond.fieldLink "RedcrossGantry" (124 : Nat) "RedcrossGantry$Traffic" "waiting" "I") ∈ Wall := mwl (k := 61) (by decide +kernel) rfl
theorem mw_62 : (Jvm.Cond.fieldLink "RedcrossGantry$Traffic" (32 : Nat) "RedcrossGantry$Traffic" "gone" "I") ∈ Wall := mwl (k := 62) (by decide +kernel) rfl
theorem mw_63 : (Jvm.Cond.fieldLink "RedcrossGantry" (127 : Nat) "RedcrossGantry$Traffic" "gone" "I") ∈ Wall := mwl (k := 63) (by decide +kernel) rfl
theorem mw_79 : (Jvm.Cond.arrayClass Jvm.ClassFile.FieldType.int) ∈ Wall := mwl (k := 79) (by decide +kernel) rfl
theorem mw_80 : (Jvm.Cond.arrayClass Jvm.ClassFile.FieldType.boolean) ∈ Wall := mwl (k := 80) (by decide +kernel) rfl
theorem mw_81 : (Jvm.Cond.classLink "RedcrossGantry" (20 : Nat) "RedcrossGantry$Detectors") ∈ Wall := mwl (k := 81) (by decide +kernel) rfl
theorem mw_82 : (Jvm.Cond.instantiable "RedcrossGantry$Detectors" (2 : Nat)) ∈ Wall := mwl (k := 82) (by decide +kernel) rfl
theorem mw_84 : (Jvm.Cond.instanceMethod ({ cls := "RedcrossGantry$Detectors", name := "<init>", desc := "()V" } : Jvm.MethodName)) ∈ Wall := mwl (k := 84) (by decide +kernel) rfl
theorem mw_85 : (Jvm.Cond.code ({ cls := "RedcrossGantry$Detectors", name := "<init>", desc := "()V" } : Jvm.MethodName) prog_3_method_1_code (1 : Nat) (Option.none : Option Jvm.ClassFile.FieldType)) ∈ Wall := mwl (k := 85) (by decide +kernel) rfl
theorem mw_86 : (Jvm.Cond.methodLink "RedcrossGantry$Detectors" (3 : Nat) ({ cls := "java/lang/Object", name := "<init>", desc := "()V" } : Jvm.MethodName)) ∈ Wall := mwl (k := 86) (by decide +kernel) rfl
theorem mw_87 : (Jvm.Cond.fieldLink "RedcrossGantry$Detectors" (9 : Nat) "RedcrossGantry$Detectors" "is" "[I") ∈ Wall := mwl (k := 87) (by decide +kernel) rfl
theorem mw_88 : (Jvm.Cond.fieldLink "RedcrossGantry" (149 : Nat) "RedcrossGantry$Detectors" "is" "[I") ∈ Wall := mwl (k := 88) (by decide +kernel) rfl
theorem mw_89 : (Jvm.Cond.fieldLink "RedcrossGantry$Detectors" (15 : Nat) "RedcrossGantry$Detectors" "stuckAt" "[I") ∈ Wall := mwl (k := 89) (by decide +kernel) rfl
theorem mw_96 : (Jvm.Cond.classLink "RedcrossGantry" (27 : Nat) "RedcrossGantry$SpeedSigns") ∈ Wall := mwl (k := 96) (by decide +kernel) rfl
theorem mw_97 : (Jvm.Cond.instantiable "RedcrossGantry$SpeedSigns" (4 : Nat)) ∈ Wall := mwl (k := 97) (by decide +kernel) rfl
theorem mw_98 : (Jvm.Cond.methodLink "RedcrossGantry" (29 : Nat) ({ cls := "RedcrossGantry$SpeedSigns", name := "<init>", desc := "()V" } : Jvm.MethodName)) ∈ Wall := mwl (k := 98) (by decide +kernel) rfl
theorem mw_99 : (Jvm.Cond.instanceMethod ({ cls := "RedcrossGantry$SpeedSigns", name := "<init>", desc := "()V" } : Jvm.MethodName)) ∈ Wall := mwl (k := 99) (by decide +kernel) rfl
theorem mw_100 : (Jvm.Cond.code ({ cls := "RedcrossGantry$SpeedSigns", name := "<init>", desc := "()V" } : Jvm.MethodName) prog_9_method_1_code (2 : Nat) (Option.none : Option Jvm.ClassFile.FieldType)) ∈ Wall := mwl (k := 100) (by decide +kernel) rfl
theorem mw_101 : (Jvm.Cond.methodLink "RedcrossGantry$SpeedSigns" (3 : Nat) ({ cls := "java/lang/Object", name := "<init>", desc := "()V" } : Jvm.MethodName)) ∈ Wall := mwl (k := 101) (by decide +kernel) rfl
theorem mw_102 : (Jvm.Cond.fieldLink "RedcrossGantry$SpeedSigns" (9 : Nat) "RedcrossGantry$SpeedSigns" "limits" "[I") ∈ Wall := mwl (k := 102) (by decide +kernel) rfl
theorem mw_104 : (Jvm.Cond.fieldLink "RedcrossGantry$SpeedSigns" (15 : Nat) "RedcrossGantry$SpeedSigns" "shown" "[I") ∈ Wall := mwl (k := 104) (by decide +kernel) rfl
theorem mw_105 : (Jvm.Cond.fieldLink "RedcrossGantry" (80 : Nat) "RedcrossGantry$SpeedSigns" "shown" "[I") ∈ Wall := mwl (k := 105) (by decide +kernel) rfl
theorem mw_106 : (Jvm.Cond.fieldLink "RedcrossGantry$SpeedSigns" (18 : Nat) "RedcrossGantry$SpeedSigns" "loweredAt" "[I") ∈ Wall := mwl (k := 106) (by decide +kernel) rfl
theorem mw_107 : (Jvm.Cond.fieldLink "RedcrossGantry$SpeedSigns" (21 : Nat) "RedcrossGantry$SpeedSigns" "weather" "I") ∈ Wall := mwl (k := 107) (by decide +kernel) rfl
theorem mw_118 : (Jvm.Cond.classLink "RedcrossGantry" (34 : Nat) "RedcrossGantry$LaneSigns") ∈ Wall := mwl (k := 118) (by decide +kernel) rfl
theorem mw_119 : (Jvm.Cond.instantiable "RedcrossGantry$LaneSigns" (3 : Nat)) ∈ Wall := mwl (k := 119) (by decide +kernel) rfl
theorem mw_120 : (Jvm.Cond.methodLink "RedcrossGantry" (36 : Nat) ({ cls := "RedcrossGantry$LaneSigns", name := "<init>", desc := "()V" } : Jvm.MethodName)) ∈ Wall := mwl (k := 120) (by decide +kernel) rfl
theorem mw_121 : (Jvm.Cond.instanceMethod ({ cls := "RedcrossGantry$LaneSigns", name := "<init>", desc := "()V" } : Jvm.MethodName)) ∈ Wall := mwl (k := 121) (by decide +kernel) rfl
theorem mw_122 : (Jvm.Cond.code ({ cls := "RedcrossGantry$LaneSigns", name := "<init>", desc := "()V" } : Jvm.MethodName) prog_5_method_1_code (2 : Nat) (Option.none : Option Jvm.ClassFile.FieldType)) ∈ Wall := mwl (k := 122) (by decide +kernel) rfl
theorem mw_123 : (Jvm.Cond.methodLink "RedcrossGantry$LaneSigns" (3 : Nat) ({ cls := "java/lang/Object", name := "<init>", desc := "()V" } : Jvm.MethodName)) ∈ Wall := mwl (k := 123) (by decide +kernel) rfl
theorem mw_124 : (Jvm.Cond.fieldLink "RedcrossGantry$LaneSigns" (9 : Nat) "RedcrossGantry$LaneSigns" "orders" "[I") ∈ Wall := mwl (k := 124) (by decide +kernel) rfl
theorem mw_126 : (Jvm.Cond.fieldLink "RedcrossGantry$LaneSigns" (15 : Nat) "RedcrossGantry$LaneSigns" "told" "[I") ∈ Wall := mwl (k := 126) (by decide +kernel) rfl
theorem mw_127 : (Jvm.Cond.fieldLink "RedcrossGantry$LaneSigns" (18 : Nat) "RedcrossGantry$LaneSigns" "shown" "[I") ∈ Wall := mwl (k := 127) (by decide +kernel) rfl
theorem mw_128 : (Jvm.Cond.fieldLink "RedcrossGantry" (84 : Nat) "RedcrossGantry$LaneSigns" "shown" "[I") ∈ Wall := mwl (k := 128) (by decide +kernel) rfl
theorem mw_136 : (Jvm.Cond.classLink "RedcrossGantry" (41 : Nat) "RedcrossGantry$Shoulder") ∈ Wall := mwl (k := 136) (by decide +kernel) rfl
theorem mw_137 : (Jvm.Cond.instantiable "RedcrossGantry$Shoulder" (2 : Nat)) ∈ Wall := mwl (k := 137) (by decide +kernel) rfl
theorem mw_138 : (Jvm.Cond.methodLink "RedcrossGantry" (43 : Nat) ({ cls := "RedcrossGantry$Shoulder", name := "<init>", desc := "()V" } : Jvm.MethodName)) ∈ Wall := mwl (k := 138) (by decide +kernel) rfl
theorem mw_139 : (Jvm.Cond.instanceMethod ({ cls := "RedcrossGantry$Shoulder", name := "<init>", desc := "()V" } : Jvm.MethodName)) ∈ Wall := mwl (k := 139) (by decide +kernel) rfl
theorem mw_140 : (Jvm.Cond.code ({ cls := "RedcrossGantry$Shoulder", name := "<init>", desc := "()V" } : Jvm.MethodName) prog_8_method_1_code (2 : Nat) (Option.none : Option Jvm.ClassFile.FieldType)) ∈ Wall := mwl (k := 140) (by decide +kernel) rfl
theorem mw_141 : (Jvm.Cond.methodLink "RedcrossGantry$Shoulder" (3 : Nat) ({ cls := "java/lang/Object", name := "<init>", desc := "()V" } : Jvm.MethodName)) ∈ Wall := mwl (k := 141) (by decide +kernel) rfl
theorem mw_142 : (Jvm.Cond.fieldLink "RedcrossGantry$Shoulder" (9 : Nat) "RedcrossGantry$Shoulder" "open" "[Z") ∈ Wall := mwl (k := 142) (by decide +kernel) rfl
theorem mw_143 : (Jvm.Cond.fieldLink "RedcrossGantry$Shoulder" (15 : Nat) "RedcrossGantry$Shoulder" "foundClearAt" "[I") ∈ Wall := mwl (k := 143) (by decide +kernel) rfl
theorem mw_144 : (Jvm.Cond.fieldLink "RedcrossGantry" (179 : Nat) "RedcrossGantry$Shoulder" "foundClearAt" "[I") ∈ Wall := mwl (k := 144) (by decide +kernel) rfl
theorem mw_150 : (Jvm.Cond.classLink "RedcrossGantry" (48 : Nat) "RedcrossGantry$Incidents") ∈ Wall := mwl (k := 150) (by decide +kernel) rfl
theorem mw_151 : (Jvm.Cond.instantiable "RedcrossGantry$Incidents" (4 : Nat)) ∈ Wall := mwl (k := 151) (by decide +kernel) rfl
theorem mw_153 : (Jvm.Cond.instanceMethod ({ cls := "RedcrossGantry$Incidents", name := "<init>", desc := "()V" } : Jvm.MethodName)) ∈ Wall := mwl (k := 153) (by decide +kernel) rfl
theorem mw_154 : (Jvm.Cond.code ({ cls := "RedcrossGantry$Incidents", name := "<init>", desc := "()V" } : Jvm.MethodName) prog_4_method_1_code (1 : Nat) (Option.none : Option Jvm.ClassFile.FieldType)) ∈ Wall := mwl (k := 154) (by decide +kernel) rfl
theorem mw_155 : (Jvm.Cond.methodLink "RedcrossGantry$Incidents" (3 : Nat) ({ cls := "java/lang/Object", name := "<init>", desc := "()V" } : Jvm.MethodName)) ∈ Wall := mwl (k := 155) (by decide +kernel) rfl
theorem mw_156 : (Jvm.Cond.fieldLink "RedcrossGantry$Incidents" (11 : Nat) "RedcrossGantry$Incidents" "places" "[I") ∈ Wall := mwl (k := 156) (by decide +kernel) rfl
theorem mw_158 : (Jvm.Cond.fieldLink "RedcrossGantry$Incidents" (15 : Nat) "RedcrossGantry$Incidents" "how" "[I") ∈ Wall := mwl (k := 158) (by decide +kernel) rfl
theorem mw_160 : (Jvm.Cond.fieldLink "RedcrossGantry$Incidents" (18 : Nat) "RedcrossGantry$Incidents" "patrols" "[I") ∈ Wall := mwl (k := 160) (by decide +kernel) rfl
theorem mw_162 : (Jvm.Cond.fieldLink "RedcrossGantry$Incidents" (21 : Nat) "RedcrossGantry$Incidents" "count" "I") ∈ Wall := mwl (k := 162) (by decide +kernel) rfl
theorem mw_172 : (Jvm.Cond.classLink "RedcrossGantry" (55 : Nat) "RedcrossGantry$Patrols") ∈ Wall := mwl (k := 172) (by decide +kernel) rfl
theorem mw_173 : (Jvm.Cond.instantiable "RedcrossGantry$Patrols" (3 : Nat)) ∈ Wall := mwl (k := 173) (by decide +kernel) rfl
theorem mw_175 : (Jvm.Cond.instanceMethod ({ cls := "RedcrossGantry$Patrols", name := "<init>", desc := "()V" } : Jvm.MethodName)) ∈ Wall := mwl (k := 175) (by decide +kernel) rfl
theorem mw_176 : (Jvm.Cond.code ({ cls := "RedcrossGantry$Patrols", name := "<init>", desc := "()V" } : Jvm.MethodName) prog_6_method_1_code (1 : Nat) (Option.none : Option Jvm.ClassFile.FieldType)) ∈ Wall := mwl (k := 176) (by decide +kernel) rfl
theorem mw_177 : (Jvm.Cond.methodLink "RedcrossGantry$Patrols" (3 : Nat) ({ cls := "java/lang/Object", name := "<init>", desc := "()V" } : Jvm.MethodName)) ∈ Wall := mwl (k := 177) (by decide +kernel) rfl
theorem mw_178 : (Jvm.Cond.fieldLink "RedcrossGantry$Patrols" (11 : Nat) "RedcrossGantry$Patrols" "sections" "[I") ∈ Wall := mwl (k := 178) (by decide +kernel) rfl
theorem mw_180 : (Jvm.Cond.fieldLink "RedcrossGantry$Patrols" (15 : Nat) "RedcrossGantry$Patrols" "incidents" "[I") ∈ Wall := mwl (k := 180) (by decide +kernel) rfl
end
section
theorem mw_182 : (Jvm.Cond.fieldLink "RedcrossGantry$Patrols" (18 : Nat) "RedcrossGantry$Patrols" "minutesLeft" "[I") ∈ Wall := mwl (k := 182) (by decide +kernel) rfl
theorem mw_191 : (Jvm.Cond.classLink "RedcrossGantry" (62 : Nat) "RedcrossGantry$Bookings") ∈ Wall := mwl (k := 191) (by decide +kernel) rfl
theorem mw_192 : (Jvm.Cond.instantiable "RedcrossGantry$Bookings" (6 : Nat)) ∈ Wall := mwl (k := 192) (by decide +kernel) rfl
theorem mw_194 : (Jvm.Cond.instanceMethod ({ cls := "RedcrossGantry$Bookings", name := "<init>", desc := "()V" } : Jvm.MethodName)) ∈ Wall := mwl (k := 194) (by decide +kernel) rfl
theorem mw_195 : (Jvm.Cond.code ({ cls := "RedcrossGantry$Bookings", name := "<init>", desc := "()V" } : Jvm.MethodName) prog_2_method_1_code (1 : Nat) (Option.none : Option Jvm.ClassFile.FieldType)) ∈ Wall := mwl (k := 195) (by decide +kernel) rfl
theorem mw_196 : (Jvm.Cond.methodLink "RedcrossGantry$Bookings" (3 : Nat) ({ cls := "java/lang/Object", name := "<init>", desc := "()V" } : Jvm.MethodName)) ∈ Wall := mwl (k := 196) (by decide +kernel) rfl
theorem mw_197 : (Jvm.Cond.fieldLink "RedcrossGantry$Bookings" (11 : Nat) "RedcrossGantry$Bookings" "lanes" "[I") ∈ Wall := mwl (k := 197) (by decide +kernel) rfl
theorem mw_198 : (Jvm.Cond.fieldLink "RedcrossGantry$Bookings" (15 : Nat) "RedcrossGantry$Bookings" "froms" "[I") ∈ Wall := mwl (k := 198) (by decide +kernel) rfl
theorem mw_199 : (Jvm.Cond.fieldLink "RedcrossGantry$Bookings" (18 : Nat) "RedcrossGantry$Bookings" "tos" "[I") ∈ Wall := mwl (k := 199) (by decide +kernel) rfl
theorem mw_200 : (Jvm.Cond.fieldLink "RedcrossGantry$Bookings" (21 : Nat) "RedcrossGantry$Bookings" "begins" "[I") ∈ Wall := mwl (k := 200) (by decide +kernel) rfl
theorem mw_201 : (Jvm.Cond.fieldLink "RedcrossGantry$Bookings" (24 : Nat) "RedcrossGantry$Bookings" "ends" "[I") ∈ Wall := mwl (k := 201) (by decide +kernel) rfl
theorem mw_202 : (Jvm.Cond.fieldLink "RedcrossGantry$Bookings" (27 : Nat) "RedcrossGantry$Bookings" "count" "I") ∈ Wall := mwl (k := 202) (by decide +kernel) rfl
theorem mw_217 : (Jvm.Cond.classLink "RedcrossGantry" (69 : Nat) "RedcrossGantry$Proofs") ∈ Wall := mwl (k := 217) (by decide +kernel) rfl
theorem mw_218 : (Jvm.Cond.instantiable "RedcrossGantry$Proofs" (1 : Nat)) ∈ Wall := mwl (k := 218) (by decide +kernel) rfl
theorem mw_220 : (Jvm.Cond.instanceMethod ({ cls := "RedcrossGantry$Proofs", name := "<init>", desc := "()V" } : Jvm.MethodName)) ∈ Wall := mwl (k := 220) (by decide +kernel) rfl
theorem mw_221 : (Jvm.Cond.code ({ cls := "RedcrossGantry$Proofs", name := "<init>", desc := "()V" } : Jvm.MethodName) prog_7_method_1_code (1 : Nat) (Option.none : Option Jvm.ClassFile.FieldType)) ∈ Wall := mwl (k := 221) (by decide +kernel) rfl
theorem mw_222 : (Jvm.Cond.methodLink "RedcrossGantry$Proofs" (3 : Nat) ({ cls := "java/lang/Object", name := "<init>", desc := "()V" } : Jvm.MethodName)) ∈ Wall := mwl (k := 222) (by decide +kernel) rfl
theorem mw_223 : (Jvm.Cond.fieldLink "RedcrossGantry$Proofs" (11 : Nat) "RedcrossGantry$Proofs" "kept" "[I") ∈ Wall := mwl (k := 223) (by decide +kernel) rfl
theorem mw_227 : (Jvm.Cond.methodLink "RedcrossGantry" (76 : Nat) ({ cls := "RedcrossGantry$LaneSigns", name := "setAnew", desc := "(ILRedcrossGantry$Shoulder;LRedcrossGantry$Incidents;LRedcrossGantry$Bookings;)V" } : Jvm.MethodName)) ∈ Wall := mwl (k := 227) (by decide +kernel) rfl
theorem mw_228 : (Jvm.Cond.instanceMethod ({ cls := "RedcrossGantry$LaneSigns", name := "setAnew", desc := "(ILRedcrossGantry$Shoulder;LRedcrossGantry$Incidents;LRedcrossGantry$Bookings;)V" } : Jvm.MethodName)) ∈ Wall := mwl (k := 228) (by decide +kernel) rfl
theorem mw_229 : (Jvm.Cond.selects "RedcrossGantry$LaneSigns" ({ cls := "RedcrossGantry$LaneSigns", name := "setAnew", desc := "(ILRedcrossGantry$Shoulder;LRedcrossGantry$Incidents;LRedcrossGantry$Bookings;)V" } : Jvm.MethodName) ({ cls := "RedcrossGantry$LaneSigns", name := "setAnew", desc := "(ILRedcrossGantry$Shoulder;LRedcrossGantry$Incidents;LRedcrossGantry$Bookings;)V" } : Jvm.MethodName)) ∈ Wall := mwl (k := 229) (by decide +kernel) rfl
theorem mw_230 : (Jvm.Cond.code ({ cls := "RedcrossGantry$LaneSigns", name := "setAnew", desc := "(ILRedcrossGantry$Shoulder;LRedcrossGantry$Incidents;LRedcrossGantry$Bookings;)V" } : Jvm.MethodName) prog_5_method_2_code (6 : Nat) (Option.none : Option Jvm.ClassFile.FieldType)) ∈ Wall := mwl (k := 230) (by decide +kernel) rfl
theorem mw_231 : (Jvm.Cond.methodLink "RedcrossGantry$LaneSigns" (21 : Nat) ({ cls := "RedcrossGantry$Shoulder", name := "tellCrosses", desc := "([I)V" } : Jvm.MethodName)) ∈ Wall := mwl (k := 231) (by decide +kernel) rfl
theorem mw_232 : (Jvm.Cond.instanceMethod ({ cls := "RedcrossGantry$Shoulder", name := "tellCrosses", desc := "([I)V" } : Jvm.MethodName)) ∈ Wall := mwl (k := 232) (by decide +kernel) rfl
theorem mw_233 : (Jvm.Cond.selects "RedcrossGantry$Shoulder" ({ cls := "RedcrossGantry$Shoulder", name := "tellCrosses", desc := "([I)V" } : Jvm.MethodName) ({ cls := "RedcrossGantry$Shoulder", name := "tellCrosses", desc := "([I)V" } : Jvm.MethodName)) ∈ Wall := mwl (k := 233) (by decide +kernel) rfl
theorem mw_234 : (Jvm.Cond.code ({ cls := "RedcrossGantry$Shoulder", name := "tellCrosses", desc := "([I)V" } : Jvm.MethodName) prog_8_method_6_code (3 : Nat) (Option.none : Option Jvm.ClassFile.FieldType)) ∈ Wall := mwl (k := 234) (by decide +kernel) rfl
theorem mw_236 : (Jvm.Cond.static ({ cls := "RedcrossGantry", name := "placeOf", desc := "(II)I" } : Jvm.MethodName)) ∈ Wall := mwl (k := 236) (by decide +kernel) rfl
theorem mw_237 : (Jvm.Cond.code ({ cls := "RedcrossGantry", name := "placeOf", desc := "(II)I" } : Jvm.MethodName) prog_1_method_30_code (2 : Nat) (Option.some Jvm.ClassFile.FieldType.int)) ∈ Wall := mwl (k := 237) (by decide +kernel) rfl
theorem mw_238 : (Jvm.Cond.methodLink "RedcrossGantry$LaneSigns" (27 : Nat) ({ cls := "RedcrossGantry$Incidents", name := "tellCrosses", desc := "([I)V" } : Jvm.MethodName)) ∈ Wall := mwl (k := 238) (by decide +kernel) rfl
theorem mw_239 : (Jvm.Cond.instanceMethod ({ cls := "RedcrossGantry$Incidents", name := "tellCrosses", desc := "([I)V" } : Jvm.MethodName)) ∈ Wall := mwl (k := 239) (by decide +kernel) rfl
theorem mw_240 : (Jvm.Cond.selects "RedcrossGantry$Incidents" ({ cls := "RedcrossGantry$Incidents", name := "tellCrosses", desc := "([I)V" } : Jvm.MethodName) ({ cls := "RedcrossGantry$Incidents", name := "tellCrosses", desc := "([I)V" } : Jvm.MethodName)) ∈ Wall := mwl (k := 240) (by decide +kernel) rfl
theorem mw_241 : (Jvm.Cond.code ({ cls := "RedcrossGantry$Incidents", name := "tellCrosses", desc := "([I)V" } : Jvm.MethodName) prog_4_method_6_code (3 : Nat) (Option.none : Option Jvm.ClassFile.FieldType)) ∈ Wall := mwl (k := 241) (by decide +kernel) rfl
theorem mw_243 : (Jvm.Cond.static ({ cls := "RedcrossGantry", name := "isWithin", desc := "(III)Z" } : Jvm.MethodName)) ∈ Wall := mwl (k := 243) (by decide +kernel) rfl
theorem mw_244 : (Jvm.Cond.code ({ cls := "RedcrossGantry", name := "isWithin", desc := "(III)Z" } : Jvm.MethodName) prog_1_method_28_code (3 : Nat) (Option.some Jvm.ClassFile.FieldType.boolean)) ∈ Wall := mwl (k := 244) (by decide +kernel) rfl
theorem mw_245 : (Jvm.Cond.methodLink "RedcrossGantry$LaneSigns" (30 : Nat) ({ cls := "RedcrossGantry$Bookings", name := "tellCrosses", desc := "([II)V" } : Jvm.MethodName)) ∈ Wall := mwl (k := 245) (by decide +kernel) rfl
theorem mw_246 : (Jvm.Cond.instanceMethod ({ cls := "RedcrossGantry$Bookings", name := "tellCrosses", desc := "([II)V" } : Jvm.MethodName)) ∈ Wall := mwl (k := 246) (by decide +kernel) rfl
theorem mw_247 : (Jvm.Cond.selects "RedcrossGantry$Bookings" ({ cls := "RedcrossGantry$Bookings", name := "tellCrosses", desc := "([II)V" } : Jvm.MethodName) ({ cls := "RedcrossGantry$Bookings", name := "tellCrosses", desc := "([II)V" } : Jvm.MethodName)) ∈ Wall := mwl (k := 247) (by decide +kernel) rfl
theorem mw_248 : (Jvm.Cond.code ({ cls := "RedcrossGantry$Bookings", name := "tellCrosses", desc := "([II)V" } : Jvm.MethodName) prog_2_method_5_code (4 : Nat) (Option.none : Option Jvm.ClassFile.FieldType)) ∈ Wall := mwl (k := 248) (by decide +kernel) rfl
theorem mw_249 : (Jvm.Cond.methodLink "RedcrossGantry$Bookings" (41 : Nat) ({ cls := "RedcrossGantry$Bookings", name := "isRunning", desc := "(II)Z" } : Jvm.MethodName)) ∈ Wall := mwl (k := 249) (by decide +kernel) rfl
theorem mw_250 : (Jvm.Cond.instanceMethod ({ cls := "RedcrossGantry$Bookings", name := "isRunning", desc := "(II)Z" } : Jvm.MethodName)) ∈ Wall := mwl (k := 250) (by decide +kernel) rfl
theorem mw_251 : (Jvm.Cond.selects "RedcrossGantry$Bookings" ({ cls := "RedcrossGantry$Bookings", name := "isRunning", desc := "(II)Z" } : Jvm.MethodName) ({ cls := "RedcrossGantry$Bookings", name := "isRunning", desc := "(II)Z" } : Jvm.MethodName)) ∈ Wall := mwl (k := 251) (by decide +kernel) rfl
theorem mw_252 : (Jvm.Cond.code ({ cls := "RedcrossGantry$Bookings", name := "isRunning", desc := "(II)Z" } : Jvm.MethodName) prog_2_method_2_code (3 : Nat) (Option.some Jvm.ClassFile.FieldType.boolean)) ∈ Wall := mwl (k := 252) (by decide +kernel) rfl
theorem mw_254 : (Jvm.Cond.methodLink "RedcrossGantry$Bookings" (45 : Nat) ({ cls := "RedcrossGantry$Bookings", name := "tellCrossesOf", desc := "(I[I)V" } : Jvm.MethodName)) ∈ Wall := mwl (k := 254) (by decide +kernel) rfl
theorem mw_256 : (Jvm.Cond.instanceMethod ({ cls := "RedcrossGantry$Bookings", name := "tellCrossesOf", desc := "(I[I)V" } : Jvm.MethodName)) ∈ Wall := mwl (k := 256) (by decide +kernel) rfl
theorem mw_257 : (Jvm.Cond.code ({ cls := "RedcrossGantry$Bookings", name := "tellCrossesOf", desc := "(I[I)V" } : Jvm.MethodName) prog_2_method_6_code (5 : Nat) (Option.none : Option Jvm.ClassFile.FieldType)) ∈ Wall := mwl (k := 257) (by decide +kernel) rfl
theorem mw_259 : (Jvm.Cond.methodLink "RedcrossGantry$LaneSigns" (35 : Nat) ({ cls := "RedcrossGantry$LaneSigns", name := "isAheadOfCross", desc := "(I[I)Z" } : Jvm.MethodName)) ∈ Wall := mwl (k := 259) (by decide +kernel) rfl
theorem mw_260 : (Jvm.Cond.static ({ cls := "RedcrossGantry$LaneSigns", name := "isAheadOfCross", desc := "(I[I)Z" } : Jvm.MethodName)) ∈ Wall := mwl (k := 260) (by decide +kernel) rfl
theorem mw_261 : (Jvm.Cond.code ({ cls := "RedcrossGantry$LaneSigns", name := "isAheadOfCross", desc := "(I[I)Z" } : Jvm.MethodName) prog_5_method_4_code (3 : Nat) (Option.some Jvm.ClassFile.FieldType.boolean)) ∈ Wall := mwl (k := 261) (by decide +kernel) rfl
theorem mw_263 : (Jvm.Cond.methodLink "RedcrossGantry" (85 : Nat) ({ cls := "RedcrossGantry$Proofs", name := "keep", desc := "(I[I[I)V" } : Jvm.MethodName)) ∈ Wall := mwl (k := 263) (by decide +kernel) rfl
theorem mw_264 : (Jvm.Cond.instanceMethod ({ cls := "RedcrossGantry$Proofs", name := "keep", desc := "(I[I[I)V" } : Jvm.MethodName)) ∈ Wall := mwl (k := 264) (by decide +kernel) rfl
theorem mw_265 : (Jvm.Cond.selects "RedcrossGantry$Proofs" ({ cls := "RedcrossGantry$Proofs", name := "keep", desc := "(I[I[I)V" } : Jvm.MethodName) ({ cls := "RedcrossGantry$Proofs", name := "keep", desc := "(I[I[I)V" } : Jvm.MethodName)) ∈ Wall := mwl (k := 265) (by decide +kernel) rfl
theorem mw_266 : (Jvm.Cond.code ({ cls := "RedcrossGantry$Proofs", name := "keep", desc := "(I[I[I)V" } : Jvm.MethodName) prog_7_method_3_code (7 : Nat) (Option.none : Option Jvm.ClassFile.FieldType)) ∈ Wall := mwl (k := 266) (by decide +kernel) rfl
theorem mw_268 : (Jvm.Cond.methodLink "RedcrossGantry$Proofs" (23 : Nat) ({ cls := "RedcrossGantry$Proofs", name := "slotOf", desc := "(II)I" } : Jvm.MethodName)) ∈ Wall := mwl (k := 268) (by decide +kernel) rfl
theorem mw_269 : (Jvm.Cond.static ({ cls := "RedcrossGantry$Proofs", name := "slotOf", desc := "(II)I" } : Jvm.MethodName)) ∈ Wall := mwl (k := 269) (by decide +kernel) rfl
theorem mw_270 : (Jvm.Cond.code ({ cls := "RedcrossGantry$Proofs", name := "slotOf", desc := "(II)I" } : Jvm.MethodName) prog_7_method_6_code (2 : Nat) (Option.some Jvm.ClassFile.FieldType.int)) ∈ Wall := mwl (k := 270) (by decide +kernel) rfl
theorem mw_271 : (Jvm.Cond.methodLink "RedcrossGantry$Proofs" (26 : Nat) ({ cls := "java/lang/Math", name := "floorMod", desc := "(II)I" } : Jvm.MethodName)) ∈ Wall := mwl (k := 271) (by decide +kernel) rfl
theorem mw_272 : (Jvm.Cond.static ({ cls := "java/lang/Math", name := "floorMod", desc := "(II)I" } : Jvm.MethodName)) ∈ Wall := mwl (k := 272) (by decide +kernel) rfl
theorem mw_273 : (Jvm.Cond.code ({ cls := "java/lang/Math", name := "floorMod", desc := "(II)I" } : Jvm.MethodName) prog_17_method_50_code (3 : Nat) (Option.some Jvm.ClassFile.FieldType.int)) ∈ Wall := mwl (k := 273) (by decide +kernel) rfl
theorem mw_274 : (Jvm.Cond.fieldLink "RedcrossGantry" (7 : Nat) "RedcrossGantry" "minute" "I") ∈ Wall := mwl (k := 274) (by decide +kernel) rfl
theorem mw_275 : (Jvm.Cond.fieldLink "RedcrossGantry" (16 : Nat) "RedcrossGantry" "traffic" "LRedcrossGantry$Traffic;") ∈ Wall := mwl (k := 275) (by decide +kernel) rfl
theorem mw_276 : (Jvm.Cond.fieldLink "RedcrossGantry" (23 : Nat) "RedcrossGantry" "detectors" "LRedcrossGantry$Detectors;") ∈ Wall := mwl (k := 276) (by decide +kernel) rfl
theorem mw_277 : (Jvm.Cond.fieldLink "RedcrossGantry" (30 : Nat) "RedcrossGantry" "speedSigns" "LRedcrossGantry$SpeedSigns;") ∈ Wall := mwl (k := 277) (by decide +kernel) rfl
theorem mw_278 : (Jvm.Cond.fieldLink "RedcrossGantry" (37 : Nat) "RedcrossGantry" "laneSigns" "LRedcrossGantry$LaneSigns;") ∈ Wall := mwl (k := 278) (by decide +kernel) rfl
theorem mw_279 : (Jvm.Cond.fieldLink "RedcrossGantry" (44 : Nat) "RedcrossGantry" "shoulder" "LRedcrossGantry$Shoulder;") ∈ Wall := mwl (k := 279) (by decide +kernel) rfl
theorem mw_280 : (Jvm.Cond.fieldLink "RedcrossGantry" (51 : Nat) "RedcrossGantry" "incidents" "LRedcrossGantry$Incidents;") ∈ Wall := mwl (k := 280) (by decide +kernel) rfl
theorem mw_281 : (Jvm.Cond.fieldLink "RedcrossGantry" (58 : Nat) "RedcrossGantry" "patrols" "LRedcrossGantry$Patrols;") ∈ Wall := mwl (k := 281) (by decide +kernel) rfl
theorem mw_282 : (Jvm.Cond.fieldLink "RedcrossGantry" (65 : Nat) "RedcrossGantry" "bookings" "LRedcrossGantry$Bookings;") ∈ Wall := mwl (k := 282) (by decide +kernel) rfl
theorem mw_283 : (Jvm.Cond.fieldLink "RedcrossGantry" (72 : Nat) "RedcrossGantry" "proofs" "LRedcrossGantry$Proofs;") ∈ Wall := mwl (k := 283) (by decide +kernel) rfl
theorem mw_305 : (Jvm.Cond.methodLink "RedcrossGantryLaw" (108 : Nat) ({ cls := "RedcrossGantry", name := "sign", desc := "(II)I" } : Jvm.MethodName)) ∈ Wall := mwl (k := 305) (by decide +kernel) rfl
theorem mw_306 : (Jvm.Cond.instanceMethod ({ cls := "RedcrossGantry", name := "sign", desc := "(II)I" } : Jvm.MethodName)) ∈ Wall := mwl (k := 306) (by decide +kernel) rfl
theorem mw_307 : (Jvm.Cond.selects "RedcrossGantry" ({ cls := "RedcrossGantry", name := "sign", desc := "(II)I" } : Jvm.MethodName) ({ cls := "RedcrossGantry", name := "sign", desc := "(II)I" } : Jvm.MethodName)) ∈ Wall := mwl (k := 307) (by decide +kernel) rfl
theorem mw_308 : (Jvm.Cond.code ({ cls := "RedcrossGantry", name := "sign", desc := "(II)I" } : Jvm.MethodName) prog_1_method_11_code (3 : Nat) (Option.some Jvm.ClassFile.FieldType.int)) ∈ Wall := mwl (k := 308) (by decide +kernel) rfl
theorem mw_309 : (Jvm.Cond.methodLink "RedcrossGantry" (106 : Nat) ({ cls := "RedcrossGantry", name := "needPlace", desc := "(II)V" } : Jvm.MethodName)) ∈ Wall := mwl (k := 309) (by decide +kernel) rfl
theorem mw_310 : (Jvm.Cond.static ({ cls := "RedcrossGantry", name := "needPlace", desc := "(II)V" } : Jvm.MethodName)) ∈ Wall := mwl (k := 310) (by decide +kernel) rfl
theorem mw_311 : (Jvm.Cond.code ({ cls := "RedcrossGantry", name := "needPlace", desc := "(II)V" } : Jvm.MethodName) prog_1_method_35_code (2 : Nat) (Option.none : Option Jvm.ClassFile.FieldType)) ∈ Wall := mwl (k := 311) (by decide +kernel) rfl
theorem mw_312 : (Jvm.Cond.methodLink "RedcrossGantry" (130 : Nat) ({ cls := "RedcrossGantry", name := "needSection", desc := "(I)V" } : Jvm.MethodName)) ∈ Wall := mwl (k := 312) (by decide +kernel) rfl
theorem mw_313 : (Jvm.Cond.static ({ cls := "RedcrossGantry", name := "needSection", desc := "(I)V" } : Jvm.MethodName)) ∈ Wall := mwl (k := 313) (by decide +kernel) rfl
theorem mw_314 : (Jvm.Cond.code ({ cls := "RedcrossGantry", name := "needSection", desc := "(I)V" } : Jvm.MethodName) prog_1_method_34_code (1 : Nat) (Option.none : Option Jvm.ClassFile.FieldType)) ∈ Wall := mwl (k := 314) (by decide +kernel) rfl
theorem mw_315 : (Jvm.Cond.methodLink "RedcrossGantry" (89 : Nat) ({ cls := "RedcrossGantry", name := "isWithin", desc := "(III)Z" } : Jvm.MethodName)) ∈ Wall := mwl (k := 315) (by decide +kernel) rfl
theorem mw_316 : (Jvm.Cond.methodLink "RedcrossGantry" (203 : Nat) ({ cls := "RedcrossGantry", name := "needIndex", desc := "(Z)V" } : Jvm.MethodName)) ∈ Wall := mwl (k := 316) (by decide +kernel) rfl
theorem mw_317 : (Jvm.Cond.static ({ cls := "RedcrossGantry", name := "needIndex", desc := "(Z)V" } : Jvm.MethodName)) ∈ Wall := mwl (k := 317) (by decide +kernel) rfl
theorem mw_318 : (Jvm.Cond.code ({ cls := "RedcrossGantry", name := "needIndex", desc := "(Z)V" } : Jvm.MethodName) prog_1_method_31_code (1 : Nat) (Option.none : Option Jvm.ClassFile.FieldType)) ∈ Wall := mwl (k := 318) (by decide +kernel) rfl
theorem mw_319 : (Jvm.Cond.classLink "RedcrossGantry" (258 : Nat) "java/lang/IndexOutOfBoundsException") ∈ Wall := mwl (k := 319) (by decide +kernel) rfl
theorem mw_387 : (Jvm.Cond.methodLink "RedcrossGantry" (168 : Nat) ({ cls := "RedcrossGantry", name := "setLaneSigns", desc := "()V" } : Jvm.MethodName)) ∈ Wall := mwl (k := 387) (by decide +kernel) rfl
theorem mw_389 : (Jvm.Cond.instanceMethod ({ cls := "RedcrossGantry", name := "setLaneSigns", desc := "()V" } : Jvm.MethodName)) ∈ Wall := mwl (k := 389) (by decide +kernel) rfl
theorem mw_390 : (Jvm.Cond.code ({ cls := "RedcrossGantry", name := "setLaneSigns", desc := "()V" } : Jvm.MethodName) prog_1_method_38_code (1 : Nat) (Option.none : Option Jvm.ClassFile.FieldType)) ∈ Wall := mwl (k := 390) (by decide +kernel) rfl
theorem mw_391 : (Jvm.Cond.methodLink "RedcrossGantry" (113 : Nat) ({ cls := "RedcrossGantry", name := "placeOf", desc := "(II)I" } : Jvm.MethodName)) ∈ Wall := mwl (k := 391) (by decide +kernel) rfl
theorem mw_392 : (Jvm.Cond.methodLink "RedcrossGantryLaw" (111 : Nat) ({ cls := "RedcrossGantry", name := "isLawful", desc := "()Z" } : Jvm.MethodName)) ∈ Wall := mwl (k := 392) (by decide +kernel) rfl
theorem mw_393 : (Jvm.Cond.instanceMethod ({ cls := "RedcrossGantry", name := "isLawful", desc := "()Z" } : Jvm.MethodName)) ∈ Wall := mwl (k := 393) (by decide +kernel) rfl
theorem mw_394 : (Jvm.Cond.selects "RedcrossGantry" ({ cls := "RedcrossGantry", name := "isLawful", desc := "()Z" } : Jvm.MethodName) ({ cls := "RedcrossGantry", name := "isLawful", desc := "()Z" } : Jvm.MethodName)) ∈ Wall := mwl (k := 394) (by decide +kernel) rfl
theorem mw_395 : (Jvm.Cond.code ({ cls := "RedcrossGantry", name := "isLawful", desc := "()Z" } : Jvm.MethodName) prog_1_method_12_code (1 : Nat) (Option.some Jvm.ClassFile.FieldType.boolean)) ∈ Wall := mwl (k := 395) (by decide +kernel) rfl
theorem mw_396 : (Jvm.Cond.methodLink "RedcrossGantry" (171 : Nat) ({ cls := "RedcrossGantry$SpeedSigns", name := "areLawful", desc := "()Z" } : Jvm.MethodName)) ∈ Wall := mwl (k := 396) (by decide +kernel) rfl
theorem mw_397 : (Jvm.Cond.instanceMethod ({ cls := "RedcrossGantry$SpeedSigns", name := "areLawful", desc := "()Z" } : Jvm.MethodName)) ∈ Wall := mwl (k := 397) (by decide +kernel) rfl
theorem mw_398 : (Jvm.Cond.selects "RedcrossGantry$SpeedSigns" ({ cls := "RedcrossGantry$SpeedSigns", name := "areLawful", desc := "()Z" } : Jvm.MethodName) ({ cls := "RedcrossGantry$SpeedSigns", name := "areLawful", desc := "()Z" } : Jvm.MethodName)) ∈ Wall := mwl (k := 398) (by decide +kernel) rfl
theorem mw_399 : (Jvm.Cond.code ({ cls := "RedcrossGantry$SpeedSigns", name := "areLawful", desc := "()Z" } : Jvm.MethodName) prog_9_method_3_code (2 : Nat) (Option.some Jvm.ClassFile.FieldType.boolean)) ∈ Wall := mwl (k := 399) (by decide +kernel) rfl
theorem mw_400 : (Jvm.Cond.methodLink "RedcrossGantry" (175 : Nat) ({ cls := "RedcrossGantry$LaneSigns", name := "areLawful", desc := "()Z" } : Jvm.MethodName)) ∈ Wall := mwl (k := 400) (by decide +kernel) rfl
theorem mw_401 : (Jvm.Cond.instanceMethod ({ cls := "RedcrossGantry$LaneSigns", name := "areLawful", desc := "()Z" } : Jvm.MethodName)) ∈ Wall := mwl (k := 401) (by decide +kernel) rfl
theorem mw_402 : (Jvm.Cond.selects "RedcrossGantry$LaneSigns" ({ cls := "RedcrossGantry$LaneSigns", name := "areLawful", desc := "()Z" } : Jvm.MethodName) ({ cls := "RedcrossGantry$LaneSigns", name := "areLawful", desc := "()Z" } : Jvm.MethodName)) ∈ Wall := mwl (k := 402) (by decide +kernel) rfl
theorem mw_403 : (Jvm.Cond.code ({ cls := "RedcrossGantry$LaneSigns", name := "areLawful", desc := "()Z" } : Jvm.MethodName) prog_5_method_3_code (2 : Nat) (Option.some Jvm.ClassFile.FieldType.boolean)) ∈ Wall := mwl (k := 403) (by decide +kernel) rfl
theorem mw_404 : (Jvm.Cond.methodLink "RedcrossGantryLaw" (130 : Nat) ({ cls := "RedcrossGantry", name := "pattern", desc := "()I" } : Jvm.MethodName)) ∈ Wall := mwl (k := 404) (by decide +kernel) rfl
end
section
theorem mw_405 : (Jvm.Cond.instanceMethod ({ cls := "RedcrossGantry", name := "pattern", desc := "()I" } : Jvm.MethodName)) ∈ Wall := mwl (k := 405) (by decide +kernel) rfl
theorem mw_406 : (Jvm.Cond.selects "RedcrossGantry" ({ cls := "RedcrossGantry", name := "pattern", desc := "()I" } : Jvm.MethodName) ({ cls := "RedcrossGantry", name := "pattern", desc := "()I" } : Jvm.MethodName)) ∈ Wall := mwl (k := 406) (by decide +kernel) rfl
theorem mw_407 : (Jvm.Cond.code ({ cls := "RedcrossGantry", name := "pattern", desc := "()I" } : Jvm.MethodName) prog_1_method_20_code (3 : Nat) (Option.some Jvm.ClassFile.FieldType.int)) ∈ Wall := mwl (k := 407) (by decide +kernel) rfl
theorem mw_408 : (Jvm.Cond.methodLink "RedcrossGantry" (138 : Nat) ({ cls := "RedcrossGantry$Detectors", name := "beliefAt", desc := "(ILRedcrossGantry$Traffic;)I" } : Jvm.MethodName)) ∈ Wall := mwl (k := 408) (by decide +kernel) rfl
theorem mw_409 : (Jvm.Cond.instanceMethod ({ cls := "RedcrossGantry$Detectors", name := "beliefAt", desc := "(ILRedcrossGantry$Traffic;)I" } : Jvm.MethodName)) ∈ Wall := mwl (k := 409) (by decide +kernel) rfl
theorem mw_410 : (Jvm.Cond.selects "RedcrossGantry$Detectors" ({ cls := "RedcrossGantry$Detectors", name := "beliefAt", desc := "(ILRedcrossGantry$Traffic;)I" } : Jvm.MethodName) ({ cls := "RedcrossGantry$Detectors", name := "beliefAt", desc := "(ILRedcrossGantry$Traffic;)I" } : Jvm.MethodName)) ∈ Wall := mwl (k := 410) (by decide +kernel) rfl
theorem mw_411 : (Jvm.Cond.code ({ cls := "RedcrossGantry$Detectors", name := "beliefAt", desc := "(ILRedcrossGantry$Traffic;)I" } : Jvm.MethodName) prog_3_method_3_code (5 : Nat) (Option.some Jvm.ClassFile.FieldType.int)) ∈ Wall := mwl (k := 411) (by decide +kernel) rfl
theorem mw_413 : (Jvm.Cond.methodLink "RedcrossGantry$Detectors" (18 : Nat) ({ cls := "RedcrossGantry$Traffic", name := "speedAt", desc := "(I)I" } : Jvm.MethodName)) ∈ Wall := mwl (k := 413) (by decide +kernel) rfl
theorem mw_414 : (Jvm.Cond.instanceMethod ({ cls := "RedcrossGantry$Traffic", name := "speedAt", desc := "(I)I" } : Jvm.MethodName)) ∈ Wall := mwl (k := 414) (by decide +kernel) rfl
theorem mw_415 : (Jvm.Cond.selects "RedcrossGantry$Traffic" ({ cls := "RedcrossGantry$Traffic", name := "speedAt", desc := "(I)I" } : Jvm.MethodName) ({ cls := "RedcrossGantry$Traffic", name := "speedAt", desc := "(I)I" } : Jvm.MethodName)) ∈ Wall := mwl (k := 415) (by decide +kernel) rfl
theorem mw_416 : (Jvm.Cond.code ({ cls := "RedcrossGantry$Traffic", name := "speedAt", desc := "(I)I" } : Jvm.MethodName) prog_10_method_3_code (2 : Nat) (Option.some Jvm.ClassFile.FieldType.int)) ∈ Wall := mwl (k := 416) (by decide +kernel) rfl
theorem mw_417 : (Jvm.Cond.methodLink "RedcrossGantry$Traffic" (35 : Nat) ({ cls := "RedcrossGantry$Traffic", name := "mostIn", desc := "(I)I" } : Jvm.MethodName)) ∈ Wall := mwl (k := 417) (by decide +kernel) rfl
theorem mw_418 : (Jvm.Cond.instanceMethod ({ cls := "RedcrossGantry$Traffic", name := "mostIn", desc := "(I)I" } : Jvm.MethodName)) ∈ Wall := mwl (k := 418) (by decide +kernel) rfl
theorem mw_419 : (Jvm.Cond.selects "RedcrossGantry$Traffic" ({ cls := "RedcrossGantry$Traffic", name := "mostIn", desc := "(I)I" } : Jvm.MethodName) ({ cls := "RedcrossGantry$Traffic", name := "mostIn", desc := "(I)I" } : Jvm.MethodName)) ∈ Wall := mwl (k := 419) (by decide +kernel) rfl
theorem mw_420 : (Jvm.Cond.code ({ cls := "RedcrossGantry$Traffic", name := "mostIn", desc := "(I)I" } : Jvm.MethodName) prog_10_method_2_code (5 : Nat) (Option.some Jvm.ClassFile.FieldType.int)) ∈ Wall := mwl (k := 420) (by decide +kernel) rfl
theorem mw_421 : (Jvm.Cond.methodLink "RedcrossGantry$Detectors" (28 : Nat) ({ cls := "RedcrossGantry$Detectors", name := "guessAt", desc := "(ILRedcrossGantry$Traffic;)I" } : Jvm.MethodName)) ∈ Wall := mwl (k := 421) (by decide +kernel) rfl
theorem mw_422 : (Jvm.Cond.instanceMethod ({ cls := "RedcrossGantry$Detectors", name := "guessAt", desc := "(ILRedcrossGantry$Traffic;)I" } : Jvm.MethodName)) ∈ Wall := mwl (k := 422) (by decide +kernel) rfl
theorem mw_423 : (Jvm.Cond.selects "RedcrossGantry$Detectors" ({ cls := "RedcrossGantry$Detectors", name := "guessAt", desc := "(ILRedcrossGantry$Traffic;)I" } : Jvm.MethodName) ({ cls := "RedcrossGantry$Detectors", name := "guessAt", desc := "(ILRedcrossGantry$Traffic;)I" } : Jvm.MethodName)) ∈ Wall := mwl (k := 423) (by decide +kernel) rfl
theorem mw_424 : (Jvm.Cond.code ({ cls := "RedcrossGantry$Detectors", name := "guessAt", desc := "(ILRedcrossGantry$Traffic;)I" } : Jvm.MethodName) prog_3_method_2_code (6 : Nat) (Option.some Jvm.ClassFile.FieldType.int)) ∈ Wall := mwl (k := 424) (by decide +kernel) rfl
theorem mw_425 : (Jvm.Cond.methodLink "RedcrossGantry$Detectors" (32 : Nat) ({ cls := "java/lang/Math", name := "abs", desc := "(I)I" } : Jvm.MethodName)) ∈ Wall := mwl (k := 425) (by decide +kernel) rfl
theorem mw_426 : (Jvm.Cond.static ({ cls := "java/lang/Math", name := "abs", desc := "(I)I" } : Jvm.MethodName)) ∈ Wall := mwl (k := 426) (by decide +kernel) rfl
theorem mw_427 : (Jvm.Cond.code ({ cls := "java/lang/Math", name := "abs", desc := "(I)I" } : Jvm.MethodName) prog_17_method_59_code (1 : Nat) (Option.some Jvm.ClassFile.FieldType.int)) ∈ Wall := mwl (k := 427) (by decide +kernel) rfl
theorem mw_428 : (Jvm.Cond.methodLink "RedcrossGantryLaw" (30 : Nat) ({ cls := "RedcrossGantry", name := "proof", desc := "(III)I" } : Jvm.MethodName)) ∈ Wall := mwl (k := 428) (by decide +kernel) rfl
theorem mw_429 : (Jvm.Cond.instanceMethod ({ cls := "RedcrossGantry", name := "proof", desc := "(III)I" } : Jvm.MethodName)) ∈ Wall := mwl (k := 429) (by decide +kernel) rfl
theorem mw_430 : (Jvm.Cond.selects "RedcrossGantry" ({ cls := "RedcrossGantry", name := "proof", desc := "(III)I" } : Jvm.MethodName) ({ cls := "RedcrossGantry", name := "proof", desc := "(III)I" } : Jvm.MethodName)) ∈ Wall := mwl (k := 430) (by decide +kernel) rfl
theorem mw_431 : (Jvm.Cond.code ({ cls := "RedcrossGantry", name := "proof", desc := "(III)I" } : Jvm.MethodName) prog_1_method_26_code (4 : Nat) (Option.some Jvm.ClassFile.FieldType.int)) ∈ Wall := mwl (k := 431) (by decide +kernel) rfl
theorem mw_432 : (Jvm.Cond.methodLink "RedcrossGantry" (93 : Nat) ({ cls := "RedcrossGantry", name := "needArgument", desc := "(Z)V" } : Jvm.MethodName)) ∈ Wall := mwl (k := 432) (by decide +kernel) rfl
theorem mw_433 : (Jvm.Cond.static ({ cls := "RedcrossGantry", name := "needArgument", desc := "(Z)V" } : Jvm.MethodName)) ∈ Wall := mwl (k := 433) (by decide +kernel) rfl
theorem mw_434 : (Jvm.Cond.code ({ cls := "RedcrossGantry", name := "needArgument", desc := "(Z)V" } : Jvm.MethodName) prog_1_method_32_code (1 : Nat) (Option.none : Option Jvm.ClassFile.FieldType)) ∈ Wall := mwl (k := 434) (by decide +kernel) rfl
theorem mw_451 : (Jvm.Cond.methodLink "RedcrossGantry" (248 : Nat) ({ cls := "RedcrossGantry$Proofs", name := "isKept", desc := "(II)Z" } : Jvm.MethodName)) ∈ Wall := mwl (k := 451) (by decide +kernel) rfl
theorem mw_452 : (Jvm.Cond.static ({ cls := "RedcrossGantry$Proofs", name := "isKept", desc := "(II)Z" } : Jvm.MethodName)) ∈ Wall := mwl (k := 452) (by decide +kernel) rfl
theorem mw_453 : (Jvm.Cond.code ({ cls := "RedcrossGantry$Proofs", name := "isKept", desc := "(II)Z" } : Jvm.MethodName) prog_7_method_2_code (2 : Nat) (Option.some Jvm.ClassFile.FieldType.boolean)) ∈ Wall := mwl (k := 453) (by decide +kernel) rfl
theorem mw_455 : (Jvm.Cond.methodLink "RedcrossGantry" (100 : Nat) ({ cls := "RedcrossGantry", name := "needState", desc := "(Z)V" } : Jvm.MethodName)) ∈ Wall := mwl (k := 455) (by decide +kernel) rfl
theorem mw_456 : (Jvm.Cond.static ({ cls := "RedcrossGantry", name := "needState", desc := "(Z)V" } : Jvm.MethodName)) ∈ Wall := mwl (k := 456) (by decide +kernel) rfl
theorem mw_457 : (Jvm.Cond.code ({ cls := "RedcrossGantry", name := "needState", desc := "(Z)V" } : Jvm.MethodName) prog_1_method_33_code (1 : Nat) (Option.none : Option Jvm.ClassFile.FieldType)) ∈ Wall := mwl (k := 457) (by decide +kernel) rfl
theorem mw_458 : (Jvm.Cond.classLink "RedcrossGantry" (270 : Nat) "java/lang/IllegalStateException") ∈ Wall := mwl (k := 458) (by decide +kernel) rfl
theorem mw_474 : (Jvm.Cond.methodLink "RedcrossGantry" (251 : Nat) ({ cls := "RedcrossGantry$Proofs", name := "speedSign", desc := "(II)I" } : Jvm.MethodName)) ∈ Wall := mwl (k := 474) (by decide +kernel) rfl
theorem mw_475 : (Jvm.Cond.instanceMethod ({ cls := "RedcrossGantry$Proofs", name := "speedSign", desc := "(II)I" } : Jvm.MethodName)) ∈ Wall := mwl (k := 475) (by decide +kernel) rfl
theorem mw_476 : (Jvm.Cond.selects "RedcrossGantry$Proofs" ({ cls := "RedcrossGantry$Proofs", name := "speedSign", desc := "(II)I" } : Jvm.MethodName) ({ cls := "RedcrossGantry$Proofs", name := "speedSign", desc := "(II)I" } : Jvm.MethodName)) ∈ Wall := mwl (k := 476) (by decide +kernel) rfl
theorem mw_477 : (Jvm.Cond.code ({ cls := "RedcrossGantry$Proofs", name := "speedSign", desc := "(II)I" } : Jvm.MethodName) prog_7_method_4_code (3 : Nat) (Option.some Jvm.ClassFile.FieldType.int)) ∈ Wall := mwl (k := 477) (by decide +kernel) rfl
theorem mw_478 : (Jvm.Cond.methodLink "RedcrossGantry" (254 : Nat) ({ cls := "RedcrossGantry$Proofs", name := "laneSign", desc := "(III)I" } : Jvm.MethodName)) ∈ Wall := mwl (k := 478) (by decide +kernel) rfl
theorem mw_479 : (Jvm.Cond.instanceMethod ({ cls := "RedcrossGantry$Proofs", name := "laneSign", desc := "(III)I" } : Jvm.MethodName)) ∈ Wall := mwl (k := 479) (by decide +kernel) rfl
theorem mw_480 : (Jvm.Cond.selects "RedcrossGantry$Proofs" ({ cls := "RedcrossGantry$Proofs", name := "laneSign", desc := "(III)I" } : Jvm.MethodName) ({ cls := "RedcrossGantry$Proofs", name := "laneSign", desc := "(III)I" } : Jvm.MethodName)) ∈ Wall := mwl (k := 480) (by decide +kernel) rfl
theorem mw_481 : (Jvm.Cond.code ({ cls := "RedcrossGantry$Proofs", name := "laneSign", desc := "(III)I" } : Jvm.MethodName) prog_7_method_5_code (4 : Nat) (Option.some Jvm.ClassFile.FieldType.int)) ∈ Wall := mwl (k := 481) (by decide +kernel) rfl
theorem mw_482 : (Jvm.Cond.methodLink "RedcrossGantryLaw" (148 : Nat) ({ cls := "RedcrossGantryLaw", name := "draw", desc := "([II)I" } : Jvm.MethodName)) ∈ Wall := mwl (k := 482) (by decide +kernel) rfl
theorem mw_483 : (Jvm.Cond.static ({ cls := "RedcrossGantryLaw", name := "draw", desc := "([II)I" } : Jvm.MethodName)) ∈ Wall := mwl (k := 483) (by decide +kernel) rfl
theorem mw_485 : (Jvm.Cond.constant "RedcrossGantryLaw" (7 : Nat) (2147483647 : Int32)) ∈ Wall := mwl (k := 485) (by decide +kernel) rfl
theorem mw_488 : (Jvm.Cond.methodLink "RedcrossGantryLaw" (152 : Nat) ({ cls := "RedcrossGantryLaw", name := "step", desc := "(LRedcrossGantry;[IIII)Z" } : Jvm.MethodName)) ∈ Wall := mwl (k := 488) (by decide +kernel) rfl
theorem mw_489 : (Jvm.Cond.static ({ cls := "RedcrossGantryLaw", name := "step", desc := "(LRedcrossGantry;[IIII)Z" } : Jvm.MethodName)) ∈ Wall := mwl (k := 489) (by decide +kernel) rfl
theorem mw_501 : (Jvm.Cond.classLink "RedcrossGantryLaw" (33 : Nat) "java/lang/IllegalStateException") ∈ Wall := mwl (k := 501) (by decide +kernel) rfl
theorem mw_569 : (Jvm.Cond.methodLink "RedcrossGantryLaw" (52 : Nat) ({ cls := "RedcrossGantryLaw", name := "stop", desc := "(LRedcrossGantry;II)Z" } : Jvm.MethodName)) ∈ Wall := mwl (k := 569) (by decide +kernel) rfl
theorem mw_570 : (Jvm.Cond.static ({ cls := "RedcrossGantryLaw", name := "stop", desc := "(LRedcrossGantry;II)Z" } : Jvm.MethodName)) ∈ Wall := mwl (k := 570) (by decide +kernel) rfl
theorem mw_572 : (Jvm.Cond.methodLink "RedcrossGantryLaw" (35 : Nat) ({ cls := "RedcrossGantry", name := "stop", desc := "(II)V" } : Jvm.MethodName)) ∈ Wall := mwl (k := 572) (by decide +kernel) rfl
theorem mw_573 : (Jvm.Cond.instanceMethod ({ cls := "RedcrossGantry", name := "stop", desc := "(II)V" } : Jvm.MethodName)) ∈ Wall := mwl (k := 573) (by decide +kernel) rfl
theorem mw_574 : (Jvm.Cond.selects "RedcrossGantry" ({ cls := "RedcrossGantry", name := "stop", desc := "(II)V" } : Jvm.MethodName) ({ cls := "RedcrossGantry", name := "stop", desc := "(II)V" } : Jvm.MethodName)) ∈ Wall := mwl (k := 574) (by decide +kernel) rfl
theorem mw_575 : (Jvm.Cond.code ({ cls := "RedcrossGantry", name := "stop", desc := "(II)V" } : Jvm.MethodName) prog_1_method_16_code (4 : Nat) (Option.none : Option Jvm.ClassFile.FieldType)) ∈ Wall := mwl (k := 575) (by decide +kernel) rfl
theorem mw_576 : (Jvm.Cond.methodLink "RedcrossGantry" (188 : Nat) ({ cls := "RedcrossGantry$Shoulder", name := "shutAll", desc := "()I" } : Jvm.MethodName)) ∈ Wall := mwl (k := 576) (by decide +kernel) rfl
theorem mw_577 : (Jvm.Cond.instanceMethod ({ cls := "RedcrossGantry$Shoulder", name := "shutAll", desc := "()I" } : Jvm.MethodName)) ∈ Wall := mwl (k := 577) (by decide +kernel) rfl
theorem mw_578 : (Jvm.Cond.selects "RedcrossGantry$Shoulder" ({ cls := "RedcrossGantry$Shoulder", name := "shutAll", desc := "()I" } : Jvm.MethodName) ({ cls := "RedcrossGantry$Shoulder", name := "shutAll", desc := "()I" } : Jvm.MethodName)) ∈ Wall := mwl (k := 578) (by decide +kernel) rfl
theorem mw_579 : (Jvm.Cond.code ({ cls := "RedcrossGantry$Shoulder", name := "shutAll", desc := "()I" } : Jvm.MethodName) prog_8_method_5_code (3 : Nat) (Option.some Jvm.ClassFile.FieldType.int)) ∈ Wall := mwl (k := 579) (by decide +kernel) rfl
theorem mw_590 : (Jvm.Cond.methodLink "RedcrossGantryLaw" (66 : Nat) ({ cls := "RedcrossGantry", name := "holds", desc := "(II)I" } : Jvm.MethodName)) ∈ Wall := mwl (k := 590) (by decide +kernel) rfl
theorem mw_591 : (Jvm.Cond.instanceMethod ({ cls := "RedcrossGantry", name := "holds", desc := "(II)I" } : Jvm.MethodName)) ∈ Wall := mwl (k := 591) (by decide +kernel) rfl
theorem mw_592 : (Jvm.Cond.selects "RedcrossGantry" ({ cls := "RedcrossGantry", name := "holds", desc := "(II)I" } : Jvm.MethodName) ({ cls := "RedcrossGantry", name := "holds", desc := "(II)I" } : Jvm.MethodName)) ∈ Wall := mwl (k := 592) (by decide +kernel) rfl
theorem mw_593 : (Jvm.Cond.code ({ cls := "RedcrossGantry", name := "holds", desc := "(II)I" } : Jvm.MethodName) prog_1_method_4_code (3 : Nat) (Option.some Jvm.ClassFile.FieldType.int)) ∈ Wall := mwl (k := 593) (by decide +kernel) rfl
theorem mw_625 : (Jvm.Cond.methodLink "RedcrossGantryLaw" (84 : Nat) ({ cls := "RedcrossGantry", name := "section", desc := "(II)I" } : Jvm.MethodName)) ∈ Wall := mwl (k := 625) (by decide +kernel) rfl
theorem mw_626 : (Jvm.Cond.instanceMethod ({ cls := "RedcrossGantry", name := "section", desc := "(II)I" } : Jvm.MethodName)) ∈ Wall := mwl (k := 626) (by decide +kernel) rfl
theorem mw_627 : (Jvm.Cond.selects "RedcrossGantry" ({ cls := "RedcrossGantry", name := "section", desc := "(II)I" } : Jvm.MethodName) ({ cls := "RedcrossGantry", name := "section", desc := "(II)I" } : Jvm.MethodName)) ∈ Wall := mwl (k := 627) (by decide +kernel) rfl
theorem mw_628 : (Jvm.Cond.code ({ cls := "RedcrossGantry", name := "section", desc := "(II)I" } : Jvm.MethodName) prog_1_method_6_code (3 : Nat) (Option.some Jvm.ClassFile.FieldType.int)) ∈ Wall := mwl (k := 628) (by decide +kernel) rfl
theorem mw_629 : (Jvm.Cond.methodLink "RedcrossGantry" (134 : Nat) ({ cls := "RedcrossGantry$Traffic", name := "speedAt", desc := "(I)I" } : Jvm.MethodName)) ∈ Wall := mwl (k := 629) (by decide +kernel) rfl
theorem mw_630 : (Jvm.Cond.methodLink "RedcrossGantry" (142 : Nat) ({ cls := "RedcrossGantry$Detectors", name := "guessAt", desc := "(ILRedcrossGantry$Traffic;)I" } : Jvm.MethodName)) ∈ Wall := mwl (k := 630) (by decide +kernel) rfl
theorem mw_676 : (Jvm.Cond.static ({ cls := "java/lang/Math", name := "min", desc := "(II)I" } : Jvm.MethodName)) ∈ Wall := mwl (k := 676) (by decide +kernel) rfl
theorem mw_677 : (Jvm.Cond.code ({ cls := "java/lang/Math", name := "min", desc := "(II)I" } : Jvm.MethodName) prog_17_method_69_code (2 : Nat) (Option.some Jvm.ClassFile.FieldType.int)) ∈ Wall := mwl (k := 677) (by decide +kernel) rfl
theorem mw_689 : (Jvm.Cond.methodLink "RedcrossGantryLaw" (133 : Nat) ({ cls := "RedcrossGantry", name := "vehicles", desc := "(I)I" } : Jvm.MethodName)) ∈ Wall := mwl (k := 689) (by decide +kernel) rfl
theorem mw_690 : (Jvm.Cond.instanceMethod ({ cls := "RedcrossGantry", name := "vehicles", desc := "(I)I" } : Jvm.MethodName)) ∈ Wall := mwl (k := 690) (by decide +kernel) rfl
theorem mw_691 : (Jvm.Cond.selects "RedcrossGantry" ({ cls := "RedcrossGantry", name := "vehicles", desc := "(I)I" } : Jvm.MethodName) ({ cls := "RedcrossGantry", name := "vehicles", desc := "(I)I" } : Jvm.MethodName)) ∈ Wall := mwl (k := 691) (by decide +kernel) rfl
theorem mw_692 : (Jvm.Cond.code ({ cls := "RedcrossGantry", name := "vehicles", desc := "(I)I" } : Jvm.MethodName) prog_1_method_5_code (2 : Nat) (Option.some Jvm.ClassFile.FieldType.int)) ∈ Wall := mwl (k := 692) (by decide +kernel) rfl
theorem mw_693 : (Jvm.Cond.methodLink "RedcrossGantry" (120 : Nat) ({ cls := "RedcrossGantry$Traffic", name := "countOnRoad", desc := "()I" } : Jvm.MethodName)) ∈ Wall := mwl (k := 693) (by decide +kernel) rfl
theorem mw_694 : (Jvm.Cond.instanceMethod ({ cls := "RedcrossGantry$Traffic", name := "countOnRoad", desc := "()I" } : Jvm.MethodName)) ∈ Wall := mwl (k := 694) (by decide +kernel) rfl
theorem mw_695 : (Jvm.Cond.selects "RedcrossGantry$Traffic" ({ cls := "RedcrossGantry$Traffic", name := "countOnRoad", desc := "()I" } : Jvm.MethodName) ({ cls := "RedcrossGantry$Traffic", name := "countOnRoad", desc := "()I" } : Jvm.MethodName)) ∈ Wall := mwl (k := 695) (by decide +kernel) rfl
theorem mw_696 : (Jvm.Cond.code ({ cls := "RedcrossGantry$Traffic", name := "countOnRoad", desc := "()I" } : Jvm.MethodName) prog_10_method_4_code (3 : Nat) (Option.some Jvm.ClassFile.FieldType.int)) ∈ Wall := mwl (k := 696) (by decide +kernel) rfl
theorem mw_763 : (Jvm.Cond.methodLink "RedcrossGantry$SpeedSigns" (25 : Nat) ({ cls := "RedcrossGantry$Detectors", name := "beliefAt", desc := "(ILRedcrossGantry$Traffic;)I" } : Jvm.MethodName)) ∈ Wall := mwl (k := 763) (by decide +kernel) rfl
theorem mw_764 : (Jvm.Cond.methodLink "RedcrossGantry$SpeedSigns" (31 : Nat) ({ cls := "RedcrossGantry$SpeedSigns", name := "wantAt", desc := "(II)I" } : Jvm.MethodName)) ∈ Wall := mwl (k := 764) (by decide +kernel) rfl
theorem mw_766 : (Jvm.Cond.instanceMethod ({ cls := "RedcrossGantry$SpeedSigns", name := "wantAt", desc := "(II)I" } : Jvm.MethodName)) ∈ Wall := mwl (k := 766) (by decide +kernel) rfl
theorem mw_767 : (Jvm.Cond.code ({ cls := "RedcrossGantry$SpeedSigns", name := "wantAt", desc := "(II)I" } : Jvm.MethodName) prog_9_method_4_code (4 : Nat) (Option.some Jvm.ClassFile.FieldType.int)) ∈ Wall := mwl (k := 767) (by decide +kernel) rfl
theorem mw_769 : (Jvm.Cond.fieldLink "RedcrossGantry$SpeedSigns" (47 : Nat) "RedcrossGantry$SpeedSigns" "WEATHER_LETS" "[I") ∈ Wall := mwl (k := 769) (by decide +kernel) rfl
theorem mw_771 : (Jvm.Cond.methodLink "RedcrossGantry$SpeedSigns" (50 : Nat) ({ cls := "RedcrossGantry$SpeedSigns", name := "wantBy", desc := "(I)I" } : Jvm.MethodName)) ∈ Wall := mwl (k := 771) (by decide +kernel) rfl
theorem mw_772 : (Jvm.Cond.static ({ cls := "RedcrossGantry$SpeedSigns", name := "wantBy", desc := "(I)I" } : Jvm.MethodName)) ∈ Wall := mwl (k := 772) (by decide +kernel) rfl
theorem mw_773 : (Jvm.Cond.code ({ cls := "RedcrossGantry$SpeedSigns", name := "wantBy", desc := "(I)I" } : Jvm.MethodName) prog_9_method_5_code (1 : Nat) (Option.some Jvm.ClassFile.FieldType.int)) ∈ Wall := mwl (k := 773) (by decide +kernel) rfl
theorem mw_774 : (Jvm.Cond.methodLink "RedcrossGantry$SpeedSigns" (39 : Nat) ({ cls := "java/lang/Math", name := "min", desc := "(II)I" } : Jvm.MethodName)) ∈ Wall := mwl (k := 774) (by decide +kernel) rfl
theorem mw_775 : (Jvm.Cond.methodLink "RedcrossGantry$SpeedSigns" (35 : Nat) ({ cls := "RedcrossGantry$SpeedSigns", name := "staysBelow", desc := "(III)Z" } : Jvm.MethodName)) ∈ Wall := mwl (k := 775) (by decide +kernel) rfl
theorem mw_777 : (Jvm.Cond.instanceMethod ({ cls := "RedcrossGantry$SpeedSigns", name := "staysBelow", desc := "(III)Z" } : Jvm.MethodName)) ∈ Wall := mwl (k := 777) (by decide +kernel) rfl
theorem mw_778 : (Jvm.Cond.code ({ cls := "RedcrossGantry$SpeedSigns", name := "staysBelow", desc := "(III)Z" } : Jvm.MethodName) prog_9_method_6_code (4 : Nat) (Option.some Jvm.ClassFile.FieldType.boolean)) ∈ Wall := mwl (k := 778) (by decide +kernel) rfl
theorem mw_779 : (Jvm.Cond.methodLink "RedcrossGantryLaw" (143 : Nat) ({ cls := "RedcrossGantryLaw", name := "isShown", desc := "(LRedcrossGantry;I)Z" } : Jvm.MethodName)) ∈ Wall := mwl (k := 779) (by decide +kernel) rfl
theorem mw_780 : (Jvm.Cond.static ({ cls := "RedcrossGantryLaw", name := "isShown", desc := "(LRedcrossGantry;I)Z" } : Jvm.MethodName)) ∈ Wall := mwl (k := 780) (by decide +kernel) rfl
theorem mw_782 : (Jvm.Cond.methodLink "RedcrossGantryLaw" (156 : Nat) ({ cls := "RedcrossGantryLaw", name := "isRoad", desc := "(LRedcrossGantry;)Z" } : Jvm.MethodName)) ∈ Wall := mwl (k := 782) (by decide +kernel) rfl
theorem mw_783 : (Jvm.Cond.static ({ cls := "RedcrossGantryLaw", name := "isRoad", desc := "(LRedcrossGantry;)Z" } : Jvm.MethodName)) ∈ Wall := mwl (k := 783) (by decide +kernel) rfl
end
section
theorem mw_484 : (Jvm.Cond.code ({ cls := "RedcrossGantryLaw", name := "draw", desc := "([II)I" } : Jvm.MethodName) method_2_code (2 : Nat) (Option.some Jvm.ClassFile.FieldType.int)) ∈ Wall := mwl (k := 484) (by decide +kernel) rfl
end
section
set_option maxRecDepth 100000 in
set_option maxHeartbeats 4000000 in
theorem mw_490 : (Jvm.Cond.code ({ cls := "RedcrossGantryLaw", name := "step", desc := "(LRedcrossGantry;[IIII)Z" } : Jvm.MethodName) method_6_code (18 : Nat) (Option.some Jvm.ClassFile.FieldType.boolean)) ∈ Wall := mwl (k := 490) rfl rfl
end
section
theorem mw_571 : (Jvm.Cond.codeWith ({ cls := "RedcrossGantryLaw", name := "stop", desc := "(LRedcrossGantry;II)Z" } : Jvm.MethodName) method_4_code (4 : Nat) (Option.some Jvm.ClassFile.FieldType.boolean) [((0 : Nat), (6 : Nat), (9 : Nat), (33 : Nat))]) ∈ Wall := mwl (k := 571) (by decide +kernel) rfl
end
section
theorem mw_781 : (Jvm.Cond.code ({ cls := "RedcrossGantryLaw", name := "isShown", desc := "(LRedcrossGantry;I)Z" } : Jvm.MethodName) method_15_code (6 : Nat) (Option.some Jvm.ClassFile.FieldType.boolean)) ∈ Wall := mwl (k := 781) (by decide +kernel) rfl
end
section
theorem mw_784 : (Jvm.Cond.code ({ cls := "RedcrossGantryLaw", name := "isRoad", desc := "(LRedcrossGantry;)Z" } : Jvm.MethodName) method_16_code (7 : Nat) (Option.some Jvm.ClassFile.FieldType.boolean)) ∈ Wall := mwl (k := 784) (by decide +kernel) rfl
end
section
def rX9_placeOf : Room := { frames := 0, cells := 0, slots := 0, locals := 0 }
set_option maxHeartbeats 4000000 in
set_option maxRecDepth 100000 in
theorem k_X9_placeOf (l : Launch) (D : va_G) (cI cZ : ClassId) (ad : Nat → Nat) (u : GS) (p0 : Int32) (p1 : Int32) {r : Int32} (h : g_X9_placeOf p0 p1 = some r) : MI l yX9_placeOf (wm yX9_placeOf cX9_placeOf 2 (some .int)) rX9_placeOf D [(cI, .int), (cZ, .boolean)] (wC cI cZ ad u) (wC cI cZ ad u) [.int p0, .int p1] r := by
  intro sz
  refine Met.ofW (cc := cX9_placeOf) (maxL := 2) (ret := (some .int)) (by decide) rfl ?_
  intro p e s m args below meth c s₁ B hml hv
  obtain ⟨rfl, hsz, hP, hK, hD0, hZ⟩ := hv
  have hx := B.exec
  have hb := B.bytes
  have hr := B.returns
  have hts : ∀ w ∈ Wall, w.before _ s = true := fun w hw => atoms_spec (ws := wm yX9_placeOf cX9_placeOf 2 (some .int)) B.pre w (List.mem_cons_of_mem _ hw)
  have hown : s.vm.findClass RX9 = some m.cls := findClass_of_methodNamed B.named
  have hlocks := B.notSynchronized
  subst hsz
  have hD := hD0.self (sz := s.heap.size)
  generalize hAe : va_A (wC cI cZ ad u) s.heap.size = A at hD hZ ⊢
  have hA : ∀ q : Nat, s.heap.size ≤ q → A q := fun q h => by rw [← hAe]; exact Or.inr h
  have hS : va_S A s.heap s.heap [] := va_S.rf
  have hl := lv_entry ([.int p0, .int p1]) (n := 2) (Nat.le_of_ble_eq_true rfl)
  rw [lg_entry_eq]
  generalize (lg_sl ([.int p0, .int p1]) ++ List.replicate (2 - (lg_sl ([.int p0, .int p1])).length) Slot.unset).toArray = ls at hl ⊢
  replace hl : lv_has ls 2 [(0, .int p0), (1, .int p1)] := hl
  refine w_gen (fun Q hQ => ?_)
  refine lv_iload_n hx hb dX9_placeOf_0 rfl (lv_at hl 0 rfl) ?_
  refine lv_iconst (v := 4) hx hb dX9_placeOf_1 (by decide) ?_
  refine lv_imul hx hb dX9_placeOf_2 ?_
  refine lv_iload_n hx hb dX9_placeOf_3 rfl (lv_at hl 1 rfl) ?_
  refine lv_iadd hx hb dX9_placeOf_4 ?_
  cases h
  exact cc_ret hx hb hr rfl hQ hK hP hD hS rfl dX9_placeOf_5 hlocks

def rX6_tellCrosses : Room := { frames := 1, cells := 0, slots := 0, locals := 21 }
set_option maxHeartbeats 4000000 in
set_option maxRecDepth 100000 in
theorem k_X6_tellCrosses (l : Launch) (D : va_G) (cI cZ : ClassId) (ad : Nat → Nat) (u : GS) {w' : GS} (h : g_X6_tellCrosses u = some w') : MV l yX6_tellCrosses (wm yX6_tellCrosses cX6_tellCrosses 3 none) rX6_tellCrosses D [(cI, .int), (cZ, .boolean)] (wC cI cZ ad u) (wC cI cZ ad w') [.ref (ad 5), .ref (ad 19)] := by
  intro sz
  refine Met.ofW (cc := cX6_tellCrosses) (maxL := 3) (ret := none) (by decide) rfl ?_
  intro p e s m args below meth c s₁ B hml hv
  obtain ⟨rfl, hsz, hP, hK, hD0, hZ⟩ := hv
  have hx := B.exec
  have hb := B.bytes
  have hr := B.returns
  have hts : ∀ w ∈ Wall, w.before _ s = true := fun w hw => atoms_spec (ws := wm yX6_tellCrosses cX6_tellCrosses 3 none) B.pre w (List.mem_cons_of_mem _ hw)
  have hown : s.vm.findClass RX6 = some m.cls := findClass_of_methodNamed B.named
  have hlocks := B.notSynchronized
  subst hsz
  have hD := hD0.self (sz := s.heap.size)
  generalize hAe : va_A (wC cI cZ ad u) s.heap.size = A at hD hZ ⊢
  have hA : ∀ q : Nat, s.heap.size ≤ q → A q := fun q h => by rw [← hAe]; exact Or.inr h
  have hS : va_S A s.heap s.heap [] := va_S.rf
  have hf9 := hts _ mw_142
  have hl := lv_entry ([.ref (ad 5), .ref (ad 19)]) (n := 3) (Nat.le_of_ble_eq_true rfl)
  rw [lg_entry_eq]
  generalize (lg_sl ([.ref (ad 5), .ref (ad 19)]) ++ List.replicate (3 - (lg_sl ([.ref (ad 5), .ref (ad 19)])).length) Slot.unset).toArray = ls at hl ⊢
  replace hl : lv_has ls 3 [(0, .ref (ad 5)), (1, .ref (ad 19))] := hl
  refine w_gen (fun Q hQ => ?_)
  refine lv_iconst (v := 0) hx hb dX6_tellCrosses_0 (by decide) ?_
  refine lv_istore_n (lv' := [(2, .int (0 : Int32)), (0, .ref (ad 5)), (1, .ref (ad 19))]) hx hb dX6_tellCrosses_1 rfl hl (by decide) rfl (fun ls hl => ?_)
  have hL2 : ∀ (k : GS → Option (GS)) (hk : ∀ (w2 : GS) (H : Heap) (locs : List Loc) (ls : Array Slot), k w2 = some w' → va_P D vwCl (wC cI cZ ad w2) H → va_D A (wC cI cZ ad w2) → va_S A s.heap H locs → lv_has ls 3 [] → W p l e rX6_tellCrosses s m ([.ref (ad 5), .ref (ad 19)] : List Value).toArray below meth c H locs 0 0 Q (F0 m 31 ls [])) (n : Nat) (x2_2 : Int32) (w2 : GS) (H : Heap) (locs : List Loc) (ls : Array Slot), lp_X6_tellCrosses_2 k n x2_2 w2 = some w' → va_P D vwCl (wC cI cZ ad w2) H → va_D A (wC cI cZ ad w2) → va_S A s.heap H locs → lv_has ls 3 [(0, .ref (ad 5)), (1, .ref (ad 19)), (2, .int x2_2)] → W p l e rX6_tellCrosses s m ([.ref (ad 5), .ref (ad 19)] : List Value).toArray below meth c H locs 0 0 Q (F0 m 2 ls []) := by
    intro k hk n
    induction n with
    | zero =>
      intro x2_2 w2 H locs ls h
      rw [lp_X6_tellCrosses_2] at h
      cases h
    | succ n ih =>
      intro x2_2 w2 H locs ls h hP hD hS hl
      rw [lp_X6_tellCrosses_2] at h
      refine lv_iload_n hx hb dX6_tellCrosses_2 rfl (lv_at hl 2 rfl) ?_
      refine lv_bipush (v := 12) hx hb dX6_tellCrosses_3 (by decide) ?_
      refine lv_icmp_ge (tgt := 31) hx hb dX6_tellCrosses_5 (by decide) (fun c1 => ?_) (fun c1 => ?_)
      · replace h := gx_t c1 h
        exact hk w2 _ _ _ h hP hD hS (lv_sub hl [] rfl)
      · replace h := gx_f c1 h
        refine lv_aload_n hx hb dX6_tellCrosses_8 rfl (lv_at hl 0 rfl) ?_
        refine va_get (D := D) (ci := 6) (v := .ref (ad 21)) (C := RX6) (T := TX6) (N := 2) hx hb hts iX6 hown hK hP 5 rfl rfl 0 (by decide) hf9 (fun _ h9 => h9) rfl dX6_tellCrosses_9 ?_
        refine lv_iload_n hx hb dX6_tellCrosses_12 rfl (lv_at hl 2 rfl) ?_
        obtain ⟨b2, h⟩ := gx_in h
        refine va_zald (D := D) hx hb hK hP 21 1 rfl rfl b2 dX6_tellCrosses_13 ?_
        obtain ⟨j25_3, ej25_3, h⟩ := gx_let h
        have hj25_3 : ∀ (w25 : GS) (H : Heap) (locs : List Loc) (ls : Array Slot), j25_3 w25 = some w' → va_P D vwCl (wC cI cZ ad w25) H → va_D A (wC cI cZ ad w25) → va_S A s.heap H locs → lv_has ls 3 [(0, .ref (ad 5)), (1, .ref (ad 19)), (2, .int x2_2)] → W p l e rX6_tellCrosses s m ([.ref (ad 5), .ref (ad 19)] : List Value).toArray below meth c H locs 0 0 Q (F0 m 25 ls []) := by
          intro w25 H locs ls h hP hD hS hl
          subst ej25_3
          obtain ⟨v4, ev4, h⟩ := gx_let h
          refine lv_iinc (v := v4) (lv' := [(2, .int v4), (0, .ref (ad 5)), (1, .ref (ad 19))]) hx hb dX6_tellCrosses_25 hl (k := 2) rfl (by rw [← ev4]; rfl) (by decide) rfl (fun ls hl => ?_)
          refine lv_goto (tgt := 2) hx hb dX6_tellCrosses_28 (by decide) ?_
          exact ih v4 w25 _ _ _ h hP hD hS (lv_sub hl [1, 2, 0] rfl)
        refine lv_if_ne (tgt := 25) hx hb dX6_tellCrosses_14 (by decide) (fun c5 => ?_) (fun c5 => ?_)
        · replace h := gx_f c5 h
          exact hj25_3 w2 _ _ _ h hP hD hS (lv_sub hl [0, 1, 2] rfl)
        · replace h := gx_t c5 h
          refine lv_aload_n hx hb dX6_tellCrosses_17 rfl (lv_at hl 1 rfl) ?_
          refine lv_iload_n hx hb dX6_tellCrosses_18 rfl (lv_at hl 2 rfl) ?_
          refine lv_iconst (v := 0) hx hb dX6_tellCrosses_19 (by decide) ?_
          obtain ⟨y6, hc7, h⟩ := gx_bind h
          refine cc_iSN (As := [.int x2_2, .int (0 : Int32)]) (rest := [.ref (ad 19)]) ⟨hx, hb, hml, hown, hts⟩ (k_X9_placeOf l D cI cZ ad w2 x2_2 (0 : Int32) hc7) ⟨va_cnB 2 hts (gwM mw_237) rfl rfl rfl (hZ.1 ("RedcrossGantry$Shoulder", 23, yX9_placeOf) (by decide +kernel)) (hts _ mw_19) (by decide +kernel) ⟨Nat.le_of_ble_eq_true rfl, Nat.le_of_ble_eq_true rfl⟩, hts _ mw_236, trivial⟩ hK hP hD hS hA hZ rfl hl.1 rfl (Nat.le_of_ble_eq_true rfl) dX6_tellCrosses_20 ⟨Nat.zero_le _, Nat.zero_le _⟩ (fun H locs hP hD hS => ?_)
          refine lv_iconst (v := 2) hx hb dX6_tellCrosses_23 (by decide) ?_
          obtain ⟨b8, h⟩ := gx_in h
          refine va_iast (D := D) hx hb hK hP hD hS 19 0 rfl rfl b8 dX6_tellCrosses_24 (fun H locs hP hD hS => ?_)
          obtain ⟨u9, eu9, h⟩ := gx_let h
          replace hP : va_P D vwCl (wC cI cZ ad u9) H := by rw [← eu9]; exact hP
          replace hD : va_D A (wC cI cZ ad u9) := by rw [← eu9]; exact hD
          exact hj25_3 u9 _ _ _ h hP hD hS (lv_sub hl [0, 1, 2] rfl)
  refine hL2 _ (fun w2 H locs ls h hP hD hS hl => ?_) FU (0 : Int32) u _ _ _ h hP hD hS (lv_sub hl [1, 2, 0] rfl)
  cases h
  exact cc_vret hx hb hr hQ hK hP hD hS dX6_tellCrosses_31 hlocks

def rX9_isWithin : Room := { frames := 0, cells := 0, slots := 0, locals := 0 }
set_option maxHeartbeats 4000000 in
set_option maxRecDepth 100000 in
theorem k_X9_isWithin (l : Launch) (D : va_G) (cI cZ : ClassId) (ad : Nat → Nat) (u : GS) (p0 : Int32) (p1 : Int32) (p2 : Int32) {r : Int32} (h : g_X9_isWithin p0 p1 p2 = some r) : MI l yX9_isWithin (wm yX9_isWithin cX9_isWithin 3 (some .boolean)) rX9_isWithin D [(cI, .int), (cZ, .boolean)] (wC cI cZ ad u) (wC cI cZ ad u) [.int p0, .int p1, .int p2] r := by
  intro sz
  refine Met.ofW (cc := cX9_isWithin) (maxL := 3) (ret := (some .boolean)) (by decide) rfl ?_
  intro p e s m args below meth c s₁ B hml hv
  obtain ⟨rfl, hsz, hP, hK, hD0, hZ⟩ := hv
  have hx := B.exec
  have hb := B.bytes
  have hr := B.returns
  have hts : ∀ w ∈ Wall, w.before _ s = true := fun w hw => atoms_spec (ws := wm yX9_isWithin cX9_isWithin 3 (some .boolean)) B.pre w (List.mem_cons_of_mem _ hw)
  have hown : s.vm.findClass RX9 = some m.cls := findClass_of_methodNamed B.named
  have hlocks := B.notSynchronized
  subst hsz
  have hD := hD0.self (sz := s.heap.size)
  generalize hAe : va_A (wC cI cZ ad u) s.heap.size = A at hD hZ ⊢
  have hA : ∀ q : Nat, s.heap.size ≤ q → A q := fun q h => by rw [← hAe]; exact Or.inr h
  have hS : va_S A s.heap s.heap [] := va_S.rf
  have hl := lv_entry ([.int p0, .int p1, .int p2]) (n := 3) (Nat.le_of_ble_eq_true rfl)
  rw [lg_entry_eq]
  generalize (lg_sl ([.int p0, .int p1, .int p2]) ++ List.replicate (3 - (lg_sl ([.int p0, .int p1, .int p2])).length) Slot.unset).toArray = ls at hl ⊢
  replace hl : lv_has ls 3 [(0, .int p0), (1, .int p1), (2, .int p2)] := hl
  refine w_gen (fun Q hQ => ?_)
  refine lv_iload_n hx hb dX9_isWithin_0 rfl (lv_at hl 0 rfl) ?_
  refine lv_iload_n hx hb dX9_isWithin_1 rfl (lv_at hl 1 rfl) ?_
  refine lv_icmp_lt (tgt := 14) hx hb dX9_isWithin_2 (by decide) (fun c1 => ?_) (fun c1 => ?_)
  · replace h := gx_t c1 h
    refine lv_iconst (v := 0) hx hb dX9_isWithin_14 (by decide) ?_
    cases h
    exact cc_ret hx hb hr rfl hQ hK hP hD hS rfl dX9_isWithin_15 hlocks
  · replace h := gx_f c1 h
    refine lv_iload_n hx hb dX9_isWithin_5 rfl (lv_at hl 0 rfl) ?_
    refine lv_iload_n hx hb dX9_isWithin_6 rfl (lv_at hl 2 rfl) ?_
    refine lv_icmp_gt (tgt := 14) hx hb dX9_isWithin_7 (by decide) (fun c2 => ?_) (fun c2 => ?_)
    · replace h := gx_t c2 h
      refine lv_iconst (v := 0) hx hb dX9_isWithin_14 (by decide) ?_
      cases h
      exact cc_ret hx hb hr rfl hQ hK hP hD hS rfl dX9_isWithin_15 hlocks
    · replace h := gx_f c2 h
      refine lv_iconst (v := 1) hx hb dX9_isWithin_10 (by decide) ?_
      refine lv_goto (tgt := 15) hx hb dX9_isWithin_11 (by decide) ?_
      cases h
      exact cc_ret hx hb hr rfl hQ hK hP hD hS rfl dX9_isWithin_15 hlocks

def rX2_tellCrosses : Room := { frames := 1, cells := 0, slots := 0, locals := 22 }
set_option maxHeartbeats 4000000 in
set_option maxRecDepth 100000 in
theorem k_X2_tellCrosses (l : Launch) (D : va_G) (cI cZ : ClassId) (ad : Nat → Nat) (u : GS) {w' : GS} (h : g_X2_tellCrosses u = some w') : MV l yX2_tellCrosses (wm yX2_tellCrosses cX2_tellCrosses 3 none) rX2_tellCrosses D [(cI, .int), (cZ, .boolean)] (wC cI cZ ad u) (wC cI cZ ad w') [.ref (ad 6), .ref (ad 19)] := by
  intro sz
  refine Met.ofW (cc := cX2_tellCrosses) (maxL := 3) (ret := none) (by decide) rfl ?_
  intro p e s m args below meth c s₁ B hml hv
  obtain ⟨rfl, hsz, hP, hK, hD0, hZ⟩ := hv
  have hx := B.exec
  have hb := B.bytes
  have hr := B.returns
  have hts : ∀ w ∈ Wall, w.before _ s = true := fun w hw => atoms_spec (ws := wm yX2_tellCrosses cX2_tellCrosses 3 none) B.pre w (List.mem_cons_of_mem _ hw)
  have hown : s.vm.findClass RX2 = some m.cls := findClass_of_methodNamed B.named
  have hlocks := B.notSynchronized
  subst hsz
  have hD := hD0.self (sz := s.heap.size)
  generalize hAe : va_A (wC cI cZ ad u) s.heap.size = A at hD hZ ⊢
  have hA : ∀ q : Nat, s.heap.size ≤ q → A q := fun q h => by rw [← hAe]; exact Or.inr h
  have hS : va_S A s.heap s.heap [] := va_S.rf
  have hf21 := hts _ mw_162
  have hf15 := hts _ mw_158
  have hf11 := hts _ mw_156
  have hl := lv_entry ([.ref (ad 6), .ref (ad 19)]) (n := 3) (Nat.le_of_ble_eq_true rfl)
  rw [lg_entry_eq]
  generalize (lg_sl ([.ref (ad 6), .ref (ad 19)]) ++ List.replicate (3 - (lg_sl ([.ref (ad 6), .ref (ad 19)])).length) Slot.unset).toArray = ls at hl ⊢
  replace hl : lv_has ls 3 [(0, .ref (ad 6)), (1, .ref (ad 19))] := hl
  refine w_gen (fun Q hQ => ?_)
  refine lv_iconst (v := 0) hx hb dX2_tellCrosses_0 (by decide) ?_
  refine lv_istore_n (lv' := [(2, .int (0 : Int32)), (0, .ref (ad 6)), (1, .ref (ad 19))]) hx hb dX2_tellCrosses_1 rfl hl (by decide) rfl (fun ls hl => ?_)
  have hL2 : ∀ (k : GS → Option (GS)) (hk : ∀ (w2 : GS) (H : Heap) (locs : List Loc) (ls : Array Slot), k w2 = some w' → va_P D vwCl (wC cI cZ ad w2) H → va_D A (wC cI cZ ad w2) → va_S A s.heap H locs → lv_has ls 3 [] → W p l e rX2_tellCrosses s m ([.ref (ad 6), .ref (ad 19)] : List Value).toArray below meth c H locs 0 0 Q (F0 m 56 ls [])) (n : Nat) (x2_2 : Int32) (w2 : GS) (H : Heap) (locs : List Loc) (ls : Array Slot), lp_X2_tellCrosses_2 k n x2_2 w2 = some w' → va_P D vwCl (wC cI cZ ad w2) H → va_D A (wC cI cZ ad w2) → va_S A s.heap H locs → lv_has ls 3 [(0, .ref (ad 6)), (1, .ref (ad 19)), (2, .int x2_2)] → W p l e rX2_tellCrosses s m ([.ref (ad 6), .ref (ad 19)] : List Value).toArray below meth c H locs 0 0 Q (F0 m 2 ls []) := by
    intro k hk n
    induction n with
    | zero =>
      intro x2_2 w2 H locs ls h
      rw [lp_X2_tellCrosses_2] at h
      cases h
    | succ n ih =>
      intro x2_2 w2 H locs ls h hP hD hS hl
      rw [lp_X2_tellCrosses_2] at h
      refine lv_iload_n hx hb dX2_tellCrosses_2 rfl (lv_at hl 2 rfl) ?_
      refine lv_bipush (v := 12) hx hb dX2_tellCrosses_3 (by decide) ?_
      refine lv_icmp_ge (tgt := 56) hx hb dX2_tellCrosses_5 (by decide) (fun c1 => ?_) (fun c1 => ?_)
      · replace h := gx_t c1 h
        exact hk w2 _ _ _ h hP hD hS (lv_sub hl [] rfl)
      · replace h := gx_f c1 h
        refine lv_iload_n hx hb dX2_tellCrosses_8 rfl (lv_at hl 2 rfl) ?_
        refine lv_aload_n hx hb dX2_tellCrosses_9 rfl (lv_at hl 0 rfl) ?_
        refine va_get (D := D) (ci := 2) (v := .int (cI_count w2)) (C := RX2) (T := TX2) (N := 4) hx hb hts iX2 hown hK hP 6 rfl rfl 3 (by decide) hf21 (fun _ h9 => h9) rfl dX2_tellCrosses_10 ?_
        obtain ⟨j50_2, ej50_2, h⟩ := gx_let h
        have hj50_2 : ∀ (w50 : GS) (H : Heap) (locs : List Loc) (ls : Array Slot), j50_2 w50 = some w' → va_P D vwCl (wC cI cZ ad w50) H → va_D A (wC cI cZ ad w50) → va_S A s.heap H locs → lv_has ls 3 [(0, .ref (ad 6)), (1, .ref (ad 19)), (2, .int x2_2)] → W p l e rX2_tellCrosses s m ([.ref (ad 6), .ref (ad 19)] : List Value).toArray below meth c H locs 0 0 Q (F0 m 50 ls []) := by
          intro w50 H locs ls h hP hD hS hl
          subst ej50_2
          obtain ⟨v3, ev3, h⟩ := gx_let h
          refine lv_iinc (v := v3) (lv' := [(2, .int v3), (0, .ref (ad 6)), (1, .ref (ad 19))]) hx hb dX2_tellCrosses_50 hl (k := 2) rfl (by rw [← ev3]; rfl) (by decide) rfl (fun ls hl => ?_)
          refine lv_goto (tgt := 2) hx hb dX2_tellCrosses_53 (by decide) ?_
          exact ih v3 w50 _ _ _ h hP hD hS (lv_sub hl [1, 2, 0] rfl)
        refine lv_icmp_ge (tgt := 50) hx hb dX2_tellCrosses_13 (by decide) (fun c4 => ?_) (fun c4 => ?_)
        · replace h := gx_t c4 h
          exact hj50_2 w2 _ _ _ h hP hD hS (lv_sub hl [0, 1, 2] rfl)
        · replace h := gx_f c4 h
          refine lv_aload_n hx hb dX2_tellCrosses_16 rfl (lv_at hl 0 rfl) ?_
          refine va_get (D := D) (ci := 2) (v := .ref (ad 24)) (C := RX2) (T := TX2) (N := 4) hx hb hts iX2 hown hK hP 6 rfl rfl 1 (by decide) hf15 (fun _ h9 => h9) rfl dX2_tellCrosses_17 ?_
          refine lv_iload_n hx hb dX2_tellCrosses_20 rfl (lv_at hl 2 rfl) ?_
          obtain ⟨b5, h⟩ := gx_in h
          refine va_iald (D := D) hx hb hK hP 24 0 rfl rfl b5 dX2_tellCrosses_21 ?_
          refine lv_iconst (v := 1) hx hb dX2_tellCrosses_22 (by decide) ?_
          refine lv_icmp_ne (tgt := 50) hx hb dX2_tellCrosses_23 (by decide) (fun c6 => ?_) (fun c6 => ?_)
          · replace h := gx_f c6 h
            exact hj50_2 w2 _ _ _ h hP hD hS (lv_sub hl [0, 1, 2] rfl)
          · replace h := gx_t c6 h
            refine lv_aload_n hx hb dX2_tellCrosses_26 rfl (lv_at hl 0 rfl) ?_
            refine va_get (D := D) (ci := 2) (v := .ref (ad 23)) (C := RX2) (T := TX2) (N := 4) hx hb hts iX2 hown hK hP 6 rfl rfl 0 (by decide) hf11 (fun _ h9 => h9) rfl dX2_tellCrosses_27 ?_
            refine lv_iload_n hx hb dX2_tellCrosses_30 rfl (lv_at hl 2 rfl) ?_
            obtain ⟨b7, h⟩ := gx_in h
            refine va_iald (D := D) hx hb hK hP 23 0 rfl rfl b7 dX2_tellCrosses_31 ?_
            refine lv_iconst (v := 0) hx hb dX2_tellCrosses_32 (by decide) ?_
            refine lv_bipush (v := 47) hx hb dX2_tellCrosses_33 (by decide) ?_
            obtain ⟨y8, hc9, h⟩ := gx_bind h
            refine cc_iSN (As := [.int (cI_places w2 x2_2.toNatClampNeg), .int (0 : Int32), .int (47 : Int32)]) (rest := []) ⟨hx, hb, hml, hown, hts⟩ (k_X9_isWithin l D cI cZ ad w2 (cI_places w2 x2_2.toNatClampNeg) (0 : Int32) (47 : Int32) hc9) ⟨va_cnB 3 hts (gwM mw_244) rfl rfl rfl (hZ.1 ("RedcrossGantry$Incidents", 25, yX9_isWithin) (by decide +kernel)) (hts _ mw_19) (by decide +kernel) ⟨Nat.le_of_ble_eq_true rfl, Nat.le_of_ble_eq_true rfl⟩, hts _ mw_243, trivial⟩ hK hP hD hS hA hZ rfl hl.1 rfl (Nat.le_of_ble_eq_true rfl) dX2_tellCrosses_35 ⟨Nat.zero_le _, Nat.zero_le _⟩ (fun H locs hP hD hS => ?_)
            refine lv_if_eq (tgt := 50) hx hb dX2_tellCrosses_38 (by decide) (fun c10 => ?_) (fun c10 => ?_)
            · replace h := gx_t c10 h
              exact hj50_2 w2 _ _ _ h hP hD hS (lv_sub hl [0, 1, 2] rfl)
            · replace h := gx_f c10 h
              refine lv_aload_n hx hb dX2_tellCrosses_41 rfl (lv_at hl 1 rfl) ?_
              refine lv_aload_n hx hb dX2_tellCrosses_42 rfl (lv_at hl 0 rfl) ?_
              refine va_get (D := D) (ci := 2) (v := .ref (ad 23)) (C := RX2) (T := TX2) (N := 4) hx hb hts iX2 hown hK hP 6 rfl rfl 0 (by decide) hf11 (fun _ h9 => h9) rfl dX2_tellCrosses_43 ?_
              refine lv_iload_n hx hb dX2_tellCrosses_46 rfl (lv_at hl 2 rfl) ?_
              obtain ⟨b11, h⟩ := gx_in h
              refine va_iald (D := D) hx hb hK hP 23 0 rfl rfl b11 dX2_tellCrosses_47 ?_
              refine lv_iconst (v := 2) hx hb dX2_tellCrosses_48 (by decide) ?_
              obtain ⟨b12, h⟩ := gx_in h
              refine va_iast (D := D) hx hb hK hP hD hS 19 0 rfl rfl b12 dX2_tellCrosses_49 (fun H locs hP hD hS => ?_)
              obtain ⟨u13, eu13, h⟩ := gx_let h
              replace hP : va_P D vwCl (wC cI cZ ad u13) H := by rw [← eu13]; exact hP
              replace hD : va_D A (wC cI cZ ad u13) := by rw [← eu13]; exact hD
              exact hj50_2 u13 _ _ _ h hP hD hS (lv_sub hl [0, 1, 2] rfl)
  refine hL2 _ (fun w2 H locs ls h hP hD hS hl => ?_) FU (0 : Int32) u _ _ _ h hP hD hS (lv_sub hl [1, 2, 0] rfl)
  cases h
  exact cc_vret hx hb hr hQ hK hP hD hS dX2_tellCrosses_56 hlocks

def rX0_isRunning : Room := { frames := 1, cells := 0, slots := 0, locals := 22 }
set_option maxHeartbeats 4000000 in
set_option maxRecDepth 100000 in
theorem k_X0_isRunning (l : Launch) (D : va_G) (cI cZ : ClassId) (ad : Nat → Nat) (u : GS) (p0 : Int32) (p1 : Int32) {r : Int32} (h : g_X0_isRunning u p0 p1 = some r) : MI l yX0_isRunning (wm yX0_isRunning cX0_isRunning 3 (some .boolean)) rX0_isRunning D [(cI, .int), (cZ, .boolean)] (wC cI cZ ad u) (wC cI cZ ad u) [.ref (ad 8), .int p0, .int p1] r := by
  intro sz
  refine Met.ofW (cc := cX0_isRunning) (maxL := 3) (ret := (some .boolean)) (by decide) rfl ?_
  intro p e s m args below meth c s₁ B hml hv
  obtain ⟨rfl, hsz, hP, hK, hD0, hZ⟩ := hv
  have hx := B.exec
  have hb := B.bytes
  have hr := B.returns
  have hts : ∀ w ∈ Wall, w.before _ s = true := fun w hw => atoms_spec (ws := wm yX0_isRunning cX0_isRunning 3 (some .boolean)) B.pre w (List.mem_cons_of_mem _ hw)
  have hown : s.vm.findClass RX0 = some m.cls := findClass_of_methodNamed B.named
  have hlocks := B.notSynchronized
  subst hsz
  have hD := hD0.self (sz := s.heap.size)
  generalize hAe : va_A (wC cI cZ ad u) s.heap.size = A at hD hZ ⊢
  have hA : ∀ q : Nat, s.heap.size ≤ q → A q := fun q h => by rw [← hAe]; exact Or.inr h
  have hS : va_S A s.heap s.heap [] := va_S.rf
  have hf21 := hts _ mw_200
  have hf24 := hts _ mw_201
  have hl := lv_entry ([.ref (ad 8), .int p0, .int p1]) (n := 3) (Nat.le_of_ble_eq_true rfl)
  rw [lg_entry_eq]
  generalize (lg_sl ([.ref (ad 8), .int p0, .int p1]) ++ List.replicate (3 - (lg_sl ([.ref (ad 8), .int p0, .int p1])).length) Slot.unset).toArray = ls at hl ⊢
  replace hl : lv_has ls 3 [(0, .ref (ad 8)), (1, .int p0), (2, .int p1)] := hl
  refine w_gen (fun Q hQ => ?_)
  refine lv_iload_n hx hb dX0_isRunning_0 rfl (lv_at hl 1 rfl) ?_
  refine lv_iconst (v := 0) hx hb dX0_isRunning_1 (by decide) ?_
  refine lv_bipush (v := 7) hx hb dX0_isRunning_2 (by decide) ?_
  obtain ⟨y1, hc2, h⟩ := gx_bind h
  refine cc_iSN (As := [.int p0, .int (0 : Int32), .int (7 : Int32)]) (rest := []) ⟨hx, hb, hml, hown, hts⟩ (k_X9_isWithin l D cI cZ ad u p0 (0 : Int32) (7 : Int32) hc2) ⟨va_cnB 3 hts (gwM mw_244) rfl rfl rfl (hZ.1 ("RedcrossGantry$Bookings", 31, yX9_isWithin) (by decide +kernel)) (hts _ mw_19) (by decide +kernel) ⟨Nat.le_of_ble_eq_true rfl, Nat.le_of_ble_eq_true rfl⟩, hts _ mw_243, trivial⟩ hK hP hD hS hA hZ rfl hl.1 rfl (Nat.le_of_ble_eq_true rfl) dX0_isRunning_4 ⟨Nat.zero_le _, Nat.zero_le _⟩ (fun H locs hP hD hS => ?_)
  refine lv_if_eq (tgt := 34) hx hb dX0_isRunning_7 (by decide) (fun c3 => ?_) (fun c3 => ?_)
  · replace h := gx_t c3 h
    refine lv_iconst (v := 0) hx hb dX0_isRunning_34 (by decide) ?_
    cases h
    exact cc_ret hx hb hr rfl hQ hK hP hD hS rfl dX0_isRunning_35 hlocks
  · replace h := gx_f c3 h
    refine lv_aload_n hx hb dX0_isRunning_10 rfl (lv_at hl 0 rfl) ?_
    refine va_get (D := D) (ci := 0) (v := .ref (ad 32)) (C := RX0) (T := TX0) (N := 6) hx hb hts iX0 hown hK hP 8 rfl rfl 3 (by decide) hf21 (fun _ h9 => h9) rfl dX0_isRunning_11 ?_
    refine lv_iload_n hx hb dX0_isRunning_14 rfl (lv_at hl 1 rfl) ?_
    obtain ⟨b4, h⟩ := gx_in h
    refine va_iald (D := D) hx hb hK hP 32 0 rfl rfl b4 dX0_isRunning_15 ?_
    refine lv_iload_n hx hb dX0_isRunning_16 rfl (lv_at hl 2 rfl) ?_
    refine lv_icmp_gt (tgt := 34) hx hb dX0_isRunning_17 (by decide) (fun c5 => ?_) (fun c5 => ?_)
    · replace h := gx_t c5 h
      refine lv_iconst (v := 0) hx hb dX0_isRunning_34 (by decide) ?_
      cases h
      exact cc_ret hx hb hr rfl hQ hK hP hD hS rfl dX0_isRunning_35 hlocks
    · replace h := gx_f c5 h
      refine lv_iload_n hx hb dX0_isRunning_20 rfl (lv_at hl 2 rfl) ?_
      refine lv_aload_n hx hb dX0_isRunning_21 rfl (lv_at hl 0 rfl) ?_
      refine va_get (D := D) (ci := 0) (v := .ref (ad 33)) (C := RX0) (T := TX0) (N := 6) hx hb hts iX0 hown hK hP 8 rfl rfl 4 (by decide) hf24 (fun _ h9 => h9) rfl dX0_isRunning_22 ?_
      refine lv_iload_n hx hb dX0_isRunning_25 rfl (lv_at hl 1 rfl) ?_
      obtain ⟨b6, h⟩ := gx_in h
      refine va_iald (D := D) hx hb hK hP 33 0 rfl rfl b6 dX0_isRunning_26 ?_
      refine lv_icmp_ge (tgt := 34) hx hb dX0_isRunning_27 (by decide) (fun c7 => ?_) (fun c7 => ?_)
      · replace h := gx_t c7 h
        refine lv_iconst (v := 0) hx hb dX0_isRunning_34 (by decide) ?_
        cases h
        exact cc_ret hx hb hr rfl hQ hK hP hD hS rfl dX0_isRunning_35 hlocks
      · replace h := gx_f c7 h
        refine lv_iconst (v := 1) hx hb dX0_isRunning_30 (by decide) ?_
        refine lv_goto (tgt := 35) hx hb dX0_isRunning_31 (by decide) ?_
        cases h
        exact cc_ret hx hb hr rfl hQ hK hP hD hS rfl dX0_isRunning_35 hlocks

def rX0_tellCrossesOf : Room := { frames := 1, cells := 0, slots := 0, locals := 22 }
set_option maxHeartbeats 4000000 in
set_option maxRecDepth 100000 in
theorem k_X0_tellCrossesOf (l : Launch) (D : va_G) (cI cZ : ClassId) (ad : Nat → Nat) (u : GS) (p0 : Int32) {w' : GS} (h : g_X0_tellCrossesOf u p0 = some w') : MV l yX0_tellCrossesOf (wm yX0_tellCrossesOf cX0_tellCrossesOf 5 none) rX0_tellCrossesOf D [(cI, .int), (cZ, .boolean)] (wC cI cZ ad u) (wC cI cZ ad w') [.ref (ad 8), .int p0, .ref (ad 19)] := by
  intro sz
  refine Met.ofW (cc := cX0_tellCrossesOf) (maxL := 5) (ret := none) (by decide) rfl ?_
  intro p e s m args below meth c s₁ B hml hv
  obtain ⟨rfl, hsz, hP, hK, hD0, hZ⟩ := hv
  have hx := B.exec
  have hb := B.bytes
  have hr := B.returns
  have hts : ∀ w ∈ Wall, w.before _ s = true := fun w hw => atoms_spec (ws := wm yX0_tellCrossesOf cX0_tellCrossesOf 5 none) B.pre w (List.mem_cons_of_mem _ hw)
  have hown : s.vm.findClass RX0 = some m.cls := findClass_of_methodNamed B.named
  have hlocks := B.notSynchronized
  subst hsz
  have hD := hD0.self (sz := s.heap.size)
  generalize hAe : va_A (wC cI cZ ad u) s.heap.size = A at hD hZ ⊢
  have hA : ∀ q : Nat, s.heap.size ≤ q → A q := fun q h => by rw [← hAe]; exact Or.inr h
  have hS : va_S A s.heap s.heap [] := va_S.rf
  have hf11 := hts _ mw_197
  have hf15 := hts _ mw_198
  have hf18 := hts _ mw_199
  have hl := lv_entry ([.ref (ad 8), .int p0, .ref (ad 19)]) (n := 5) (Nat.le_of_ble_eq_true rfl)
  rw [lg_entry_eq]
  generalize (lg_sl ([.ref (ad 8), .int p0, .ref (ad 19)]) ++ List.replicate (5 - (lg_sl ([.ref (ad 8), .int p0, .ref (ad 19)])).length) Slot.unset).toArray = ls at hl ⊢
  replace hl : lv_has ls 5 [(0, .ref (ad 8)), (1, .int p0), (2, .ref (ad 19))] := hl
  refine w_gen (fun Q hQ => ?_)
  refine lv_iconst (v := 0) hx hb dX0_tellCrossesOf_0 (by decide) ?_
  refine lv_istore_n (lv' := [(3, .int (0 : Int32)), (0, .ref (ad 8)), (1, .int p0), (2, .ref (ad 19))]) hx hb dX0_tellCrossesOf_1 rfl hl (by decide) rfl (fun ls hl => ?_)
  have hL2 : ∀ (k : GS → Option (GS)) (hk : ∀ (w2 : GS) (H : Heap) (locs : List Loc) (ls : Array Slot), k w2 = some w' → va_P D vwCl (wC cI cZ ad w2) H → va_D A (wC cI cZ ad w2) → va_S A s.heap H locs → lv_has ls 5 [] → W p l e rX0_tellCrossesOf s m ([.ref (ad 8), .int p0, .ref (ad 19)] : List Value).toArray below meth c H locs 0 0 Q (F0 m 61 ls [])) (n : Nat) (x3_2 : Int32) (w2 : GS) (H : Heap) (locs : List Loc) (ls : Array Slot), lp_X0_tellCrossesOf_2 p0 k n x3_2 w2 = some w' → va_P D vwCl (wC cI cZ ad w2) H → va_D A (wC cI cZ ad w2) → va_S A s.heap H locs → lv_has ls 5 [(0, .ref (ad 8)), (1, .int p0), (2, .ref (ad 19)), (3, .int x3_2)] → W p l e rX0_tellCrossesOf s m ([.ref (ad 8), .int p0, .ref (ad 19)] : List Value).toArray below meth c H locs 0 0 Q (F0 m 2 ls []) := by
    intro k hk n
    induction n with
    | zero =>
      intro x3_2 w2 H locs ls h
      rw [lp_X0_tellCrossesOf_2] at h
      cases h
    | succ n ih =>
      intro x3_2 w2 H locs ls h hP hD hS hl
      rw [lp_X0_tellCrossesOf_2] at h
      refine lv_iload_n hx hb dX0_tellCrossesOf_2 rfl (lv_at hl 3 rfl) ?_
      refine lv_bipush (v := 12) hx hb dX0_tellCrossesOf_3 (by decide) ?_
      refine lv_icmp_ge (tgt := 61) hx hb dX0_tellCrossesOf_5 (by decide) (fun c1 => ?_) (fun c1 => ?_)
      · replace h := gx_t c1 h
        exact hk w2 _ _ _ h hP hD hS (lv_sub hl [] rfl)
      · replace h := gx_f c1 h
        refine lv_iload_n hx hb dX0_tellCrossesOf_8 rfl (lv_at hl 3 rfl) ?_
        refine lv_aload_n hx hb dX0_tellCrossesOf_9 rfl (lv_at hl 0 rfl) ?_
        refine va_get (D := D) (ci := 0) (v := .ref (ad 29)) (C := RX0) (T := TX0) (N := 6) hx hb hts iX0 hown hK hP 8 rfl rfl 0 (by decide) hf11 (fun _ h9 => h9) rfl dX0_tellCrossesOf_10 ?_
        refine lv_iload_n hx hb dX0_tellCrossesOf_13 rfl (lv_at hl 1 rfl) ?_
        obtain ⟨b2, h⟩ := gx_in h
        refine va_iald (D := D) hx hb hK hP 29 0 rfl rfl b2 dX0_tellCrossesOf_14 ?_
        obtain ⟨y3, hc4, h⟩ := gx_bind h
        refine cc_iSN (As := [.int x3_2, .int (cB_lanes w2 p0.toNatClampNeg)]) (rest := []) ⟨hx, hb, hml, hown, hts⟩ (k_X9_placeOf l D cI cZ ad w2 x3_2 (cB_lanes w2 p0.toNatClampNeg) hc4) ⟨va_cnB 2 hts (gwM mw_237) rfl rfl rfl (hZ.1 ("RedcrossGantry$Bookings", 49, yX9_placeOf) (by decide +kernel)) (hts _ mw_19) (by decide +kernel) ⟨Nat.le_of_ble_eq_true rfl, Nat.le_of_ble_eq_true rfl⟩, hts _ mw_236, trivial⟩ hK hP hD hS hA hZ rfl hl.1 rfl (Nat.le_of_ble_eq_true rfl) dX0_tellCrossesOf_15 ⟨Nat.zero_le _, Nat.zero_le _⟩ (fun H locs hP hD hS => ?_)
        refine lv_istore (lv' := [(4, .int y3), (0, .ref (ad 8)), (1, .int p0), (2, .ref (ad 19)), (3, .int x3_2)]) hx hb dX0_tellCrossesOf_18 hl (by decide) rfl (fun ls hl => ?_)
        refine lv_iload_n hx hb dX0_tellCrossesOf_20 rfl (lv_at hl 4 rfl) ?_
        refine lv_aload_n hx hb dX0_tellCrossesOf_21 rfl (lv_at hl 1 rfl) ?_
        refine va_get (D := D) (ci := 0) (v := .ref (ad 30)) (C := RX0) (T := TX0) (N := 6) hx hb hts iX0 hown hK hP 8 rfl rfl 1 (by decide) hf15 (fun _ h9 => h9) rfl dX0_tellCrossesOf_22 ?_
        refine lv_iload_n hx hb dX0_tellCrossesOf_25 rfl (lv_at hl 2 rfl) ?_
        obtain ⟨b5, h⟩ := gx_in h
        refine va_iald (D := D) hx hb hK hP 30 0 rfl rfl b5 dX0_tellCrossesOf_26 ?_
        refine lv_aload_n hx hb dX0_tellCrossesOf_27 rfl (lv_at hl 1 rfl) ?_
        refine va_get (D := D) (ci := 0) (v := .ref (ad 31)) (C := RX0) (T := TX0) (N := 6) hx hb hts iX0 hown hK hP 8 rfl rfl 2 (by decide) hf18 (fun _ h9 => h9) rfl dX0_tellCrossesOf_28 ?_
        refine lv_iload_n hx hb dX0_tellCrossesOf_31 rfl (lv_at hl 2 rfl) ?_
        obtain ⟨b6, h⟩ := gx_in h
        refine va_iald (D := D) hx hb hK hP 31 0 rfl rfl b6 dX0_tellCrossesOf_32 ?_
        obtain ⟨y7, hc8, h⟩ := gx_bind h
        refine cc_iSN (As := [.int x3_2, .int (cB_froms w2 p0.toNatClampNeg), .int (cB_tos w2 p0.toNatClampNeg)]) (rest := []) ⟨hx, hb, hml, hown, hts⟩ (k_X9_isWithin l D cI cZ ad w2 x3_2 (cB_froms w2 p0.toNatClampNeg) (cB_tos w2 p0.toNatClampNeg) hc8) ⟨va_cnB 3 hts (gwM mw_244) rfl rfl rfl (hZ.1 ("RedcrossGantry$Bookings", 31, yX9_isWithin) (by decide +kernel)) (hts _ mw_19) (by decide +kernel) ⟨Nat.le_of_ble_eq_true rfl, Nat.le_of_ble_eq_true rfl⟩, hts _ mw_243, trivial⟩ hK hP hD hS hA hZ rfl hl.1 rfl (Nat.le_of_ble_eq_true rfl) dX0_tellCrossesOf_33 ⟨Nat.zero_le _, Nat.zero_le _⟩ (fun H locs hP hD hS => ?_)
        obtain ⟨j55_9, ej55_9, h⟩ := gx_let h
        have hj55_9 : ∀ (w55 : GS) (H : Heap) (locs : List Loc) (ls : Array Slot), j55_9 w55 = some w' → va_P D vwCl (wC cI cZ ad w55) H → va_D A (wC cI cZ ad w55) → va_S A s.heap H locs → lv_has ls 5 [(0, .ref (ad 8)), (1, .int p0), (2, .ref (ad 19)), (3, .int x3_2)] → W p l e rX0_tellCrossesOf s m ([.ref (ad 8), .int p0, .ref (ad 19)] : List Value).toArray below meth c H locs 0 0 Q (F0 m 55 ls []) := by
          intro w55 H locs ls h hP hD hS hl
          subst ej55_9
          obtain ⟨v10, ev10, h⟩ := gx_let h
          refine lv_iinc (v := v10) (lv' := [(3, .int v10), (0, .ref (ad 8)), (1, .int p0), (2, .ref (ad 19))]) hx hb dX0_tellCrossesOf_55 hl (k := 3) rfl (by rw [← ev10]; rfl) (by decide) rfl (fun ls hl => ?_)
          refine lv_goto (tgt := 2) hx hb dX0_tellCrossesOf_58 (by decide) ?_
          exact ih v10 w55 _ _ _ h hP hD hS (lv_sub hl [1, 2, 3, 0] rfl)
        refine lv_if_eq (tgt := 55) hx hb dX0_tellCrossesOf_36 (by decide) (fun c11 => ?_) (fun c11 => ?_)
        · replace h := gx_t c11 h
          exact hj55_9 w2 _ _ _ h hP hD hS (lv_sub hl [1, 2, 3, 4] rfl)
        · replace h := gx_f c11 h
          refine lv_iload hx hb dX0_tellCrossesOf_39 (lv_at hl 0 rfl) ?_
          refine lv_iconst (v := 0) hx hb dX0_tellCrossesOf_41 (by decide) ?_
          refine lv_bipush (v := 47) hx hb dX0_tellCrossesOf_42 (by decide) ?_
          obtain ⟨y12, hc13, h⟩ := gx_bind h
          refine cc_iSN (As := [.int y3, .int (0 : Int32), .int (47 : Int32)]) (rest := []) ⟨hx, hb, hml, hown, hts⟩ (k_X9_isWithin l D cI cZ ad w2 y3 (0 : Int32) (47 : Int32) hc13) ⟨va_cnB 3 hts (gwM mw_244) rfl rfl rfl (hZ.1 ("RedcrossGantry$Bookings", 31, yX9_isWithin) (by decide +kernel)) (hts _ mw_19) (by decide +kernel) ⟨Nat.le_of_ble_eq_true rfl, Nat.le_of_ble_eq_true rfl⟩, hts _ mw_243, trivial⟩ hK hP hD hS hA hZ rfl hl.1 rfl (Nat.le_of_ble_eq_true rfl) dX0_tellCrossesOf_44 ⟨Nat.zero_le _, Nat.zero_le _⟩ (fun H locs hP hD hS => ?_)
          refine lv_if_eq (tgt := 55) hx hb dX0_tellCrossesOf_47 (by decide) (fun c14 => ?_) (fun c14 => ?_)
          · replace h := gx_t c14 h
            exact hj55_9 w2 _ _ _ h hP hD hS (lv_sub hl [1, 2, 3, 4] rfl)
          · replace h := gx_f c14 h
            refine lv_aload_n hx hb dX0_tellCrossesOf_50 rfl (lv_at hl 3 rfl) ?_
            refine lv_iload hx hb dX0_tellCrossesOf_51 (lv_at hl 0 rfl) ?_
            refine lv_iconst (v := 2) hx hb dX0_tellCrossesOf_53 (by decide) ?_
            obtain ⟨b15, h⟩ := gx_in h
            refine va_iast (D := D) hx hb hK hP hD hS 19 0 rfl rfl b15 dX0_tellCrossesOf_54 (fun H locs hP hD hS => ?_)
            obtain ⟨u16, eu16, h⟩ := gx_let h
            replace hP : va_P D vwCl (wC cI cZ ad u16) H := by rw [← eu16]; exact hP
            replace hD : va_D A (wC cI cZ ad u16) := by rw [← eu16]; exact hD
            exact hj55_9 u16 _ _ _ h hP hD hS (lv_sub hl [1, 2, 3, 4] rfl)
  refine hL2 _ (fun w2 H locs ls h hP hD hS hl => ?_) FU (0 : Int32) u _ _ _ h hP hD hS (lv_sub hl [1, 2, 3, 0] rfl)
  cases h
  exact cc_vret hx hb hr hQ hK hP hD hS dX0_tellCrossesOf_61 hlocks

def rX0_tellCrosses : Room := { frames := 2, cells := 0, slots := 0, locals := 46 }
set_option maxHeartbeats 4000000 in
set_option maxRecDepth 100000 in
theorem k_X0_tellCrosses (l : Launch) (D : va_G) (cI cZ : ClassId) (ad : Nat → Nat) (u : GS) (p0 : Int32) {w' : GS} (h : g_X0_tellCrosses u p0 = some w') : MV l yX0_tellCrosses (wm yX0_tellCrosses cX0_tellCrosses 4 none) rX0_tellCrosses D [(cI, .int), (cZ, .boolean)] (wC cI cZ ad u) (wC cI cZ ad w') [.ref (ad 8), .ref (ad 19), .int p0] := by
  intro sz
  refine Met.ofW (cc := cX0_tellCrosses) (maxL := 4) (ret := none) (by decide) rfl ?_
  intro p e s m args below meth c s₁ B hml hv
  obtain ⟨rfl, hsz, hP, hK, hD0, hZ⟩ := hv
  have hx := B.exec
  have hb := B.bytes
  have hr := B.returns
  have hts : ∀ w ∈ Wall, w.before _ s = true := fun w hw => atoms_spec (ws := wm yX0_tellCrosses cX0_tellCrosses 4 none) B.pre w (List.mem_cons_of_mem _ hw)
  have hown : s.vm.findClass RX0 = some m.cls := findClass_of_methodNamed B.named
  have hlocks := B.notSynchronized
  subst hsz
  have hD := hD0.self (sz := s.heap.size)
  generalize hAe : va_A (wC cI cZ ad u) s.heap.size = A at hD hZ ⊢
  have hA : ∀ q : Nat, s.heap.size ≤ q → A q := fun q h => by rw [← hAe]; exact Or.inr h
  have hS : va_S A s.heap s.heap [] := va_S.rf
  have hf27 := hts _ mw_202
  have hl := lv_entry ([.ref (ad 8), .ref (ad 19), .int p0]) (n := 4) (Nat.le_of_ble_eq_true rfl)
  rw [lg_entry_eq]
  generalize (lg_sl ([.ref (ad 8), .ref (ad 19), .int p0]) ++ List.replicate (4 - (lg_sl ([.ref (ad 8), .ref (ad 19), .int p0])).length) Slot.unset).toArray = ls at hl ⊢
  replace hl : lv_has ls 4 [(0, .ref (ad 8)), (1, .ref (ad 19)), (2, .int p0)] := hl
  refine w_gen (fun Q hQ => ?_)
  refine lv_iconst (v := 0) hx hb dX0_tellCrosses_0 (by decide) ?_
  refine lv_istore_n (lv' := [(3, .int (0 : Int32)), (0, .ref (ad 8)), (1, .ref (ad 19)), (2, .int p0)]) hx hb dX0_tellCrosses_1 rfl hl (by decide) rfl (fun ls hl => ?_)
  have hL2 : ∀ (k : GS → Option (GS)) (hk : ∀ (w2 : GS) (H : Heap) (locs : List Loc) (ls : Array Slot), k w2 = some w' → va_P D vwCl (wC cI cZ ad w2) H → va_D A (wC cI cZ ad w2) → va_S A s.heap H locs → lv_has ls 4 [] → W p l e rX0_tellCrosses s m ([.ref (ad 8), .ref (ad 19), .int p0] : List Value).toArray below meth c H locs 0 0 Q (F0 m 37 ls [])) (n : Nat) (x3_2 : Int32) (w2 : GS) (H : Heap) (locs : List Loc) (ls : Array Slot), lp_X0_tellCrosses_2 p0 k n x3_2 w2 = some w' → va_P D vwCl (wC cI cZ ad w2) H → va_D A (wC cI cZ ad w2) → va_S A s.heap H locs → lv_has ls 4 [(0, .ref (ad 8)), (1, .ref (ad 19)), (2, .int p0), (3, .int x3_2)] → W p l e rX0_tellCrosses s m ([.ref (ad 8), .ref (ad 19), .int p0] : List Value).toArray below meth c H locs 0 0 Q (F0 m 2 ls []) := by
    intro k hk n
    induction n with
    | zero =>
      intro x3_2 w2 H locs ls h
      rw [lp_X0_tellCrosses_2] at h
      cases h
    | succ n ih =>
      intro x3_2 w2 H locs ls h hP hD hS hl
      rw [lp_X0_tellCrosses_2] at h
      refine lv_iload_n hx hb dX0_tellCrosses_2 rfl (lv_at hl 3 rfl) ?_
      refine lv_bipush (v := 8) hx hb dX0_tellCrosses_3 (by decide) ?_
      refine lv_icmp_ge (tgt := 37) hx hb dX0_tellCrosses_5 (by decide) (fun c1 => ?_) (fun c1 => ?_)
      · replace h := gx_t c1 h
        exact hk w2 _ _ _ h hP hD hS (lv_sub hl [] rfl)
      · replace h := gx_f c1 h
        refine lv_iload_n hx hb dX0_tellCrosses_8 rfl (lv_at hl 3 rfl) ?_
        refine lv_aload_n hx hb dX0_tellCrosses_9 rfl (lv_at hl 0 rfl) ?_
        refine va_get (D := D) (ci := 0) (v := .int (cB_count w2)) (C := RX0) (T := TX0) (N := 6) hx hb hts iX0 hown hK hP 8 rfl rfl 5 (by decide) hf27 (fun _ h9 => h9) rfl dX0_tellCrosses_10 ?_
        obtain ⟨j31_2, ej31_2, h⟩ := gx_let h
        have hj31_2 : ∀ (w31 : GS) (H : Heap) (locs : List Loc) (ls : Array Slot), j31_2 w31 = some w' → va_P D vwCl (wC cI cZ ad w31) H → va_D A (wC cI cZ ad w31) → va_S A s.heap H locs → lv_has ls 4 [(0, .ref (ad 8)), (1, .ref (ad 19)), (2, .int p0), (3, .int x3_2)] → W p l e rX0_tellCrosses s m ([.ref (ad 8), .ref (ad 19), .int p0] : List Value).toArray below meth c H locs 0 0 Q (F0 m 31 ls []) := by
          intro w31 H locs ls h hP hD hS hl
          subst ej31_2
          obtain ⟨v3, ev3, h⟩ := gx_let h
          refine lv_iinc (v := v3) (lv' := [(3, .int v3), (0, .ref (ad 8)), (1, .ref (ad 19)), (2, .int p0)]) hx hb dX0_tellCrosses_31 hl (k := 3) rfl (by rw [← ev3]; rfl) (by decide) rfl (fun ls hl => ?_)
          refine lv_goto (tgt := 2) hx hb dX0_tellCrosses_34 (by decide) ?_
          exact ih v3 w31 _ _ _ h hP hD hS (lv_sub hl [1, 2, 3, 0] rfl)
        refine lv_icmp_ge (tgt := 31) hx hb dX0_tellCrosses_13 (by decide) (fun c4 => ?_) (fun c4 => ?_)
        · replace h := gx_t c4 h
          exact hj31_2 w2 _ _ _ h hP hD hS (lv_sub hl [0, 1, 2, 3] rfl)
        · replace h := gx_f c4 h
          refine lv_aload_n hx hb dX0_tellCrosses_16 rfl (lv_at hl 0 rfl) ?_
          refine lv_iload_n hx hb dX0_tellCrosses_17 rfl (lv_at hl 3 rfl) ?_
          refine lv_iload_n hx hb dX0_tellCrosses_18 rfl (lv_at hl 2 rfl) ?_
          obtain ⟨y5, hc6, h⟩ := gx_bind h
          refine cc_iV (As := [.int x3_2, .int p0]) (rest := []) ⟨hx, hb, hml, hown, hts⟩ (k_X0_isRunning l D cI cZ ad w2 x3_2 p0 hc6) (cwV 2 hts (gwV mw_249 mw_250 mw_251 mw_27 mw_252) rfl rfl rfl (by decide +kernel) ⟨Nat.le_of_ble_eq_true rfl, Nat.le_of_ble_eq_true rfl⟩) hK hP hD hS hA hZ (ci := 0) (q0 := 8) rfl rfl rfl hl.1 rfl (Nat.le_of_ble_eq_true rfl) dX0_tellCrosses_19 ⟨Nat.zero_le _, Nat.zero_le _⟩ (fun H locs hP hD hS => ?_)
          refine lv_if_eq (tgt := 31) hx hb dX0_tellCrosses_22 (by decide) (fun c7 => ?_) (fun c7 => ?_)
          · replace h := gx_t c7 h
            exact hj31_2 w2 _ _ _ h hP hD hS (lv_sub hl [0, 1, 2, 3] rfl)
          · replace h := gx_f c7 h
            refine lv_aload_n hx hb dX0_tellCrosses_25 rfl (lv_at hl 0 rfl) ?_
            refine lv_iload_n hx hb dX0_tellCrosses_26 rfl (lv_at hl 3 rfl) ?_
            refine lv_aload_n hx hb dX0_tellCrosses_27 rfl (lv_at hl 1 rfl) ?_
            obtain ⟨y8, hc9, h⟩ := gx_bind h
            refine cc_vV (As := [.int x3_2, .ref (ad 19)]) (rest := []) ⟨hx, hb, hml, hown, hts⟩ (k_X0_tellCrossesOf l D cI cZ ad w2 x3_2 hc9) (cwV 2 hts (gwV mw_254 mw_256 mw_0 mw_27 mw_257) rfl rfl rfl (by decide +kernel) ⟨Nat.le_of_ble_eq_true rfl, Nat.le_of_ble_eq_true rfl⟩) hK hP hD hS hA hZ (ci := 0) (q0 := 8) rfl rfl rfl hl.1 rfl (Nat.le_of_ble_eq_true rfl) dX0_tellCrosses_28 ⟨Nat.zero_le _, Nat.zero_le _⟩ (fun H locs hP hD hS => ?_)
            exact hj31_2 y8 _ _ _ h hP hD hS (lv_sub hl [0, 1, 2, 3] rfl)
  refine hL2 _ (fun w2 H locs ls h hP hD hS hl => ?_) FU (0 : Int32) u _ _ _ h hP hD hS (lv_sub hl [1, 2, 3, 0] rfl)
  cases h
  exact cc_vret hx hb hr hQ hK hP hD hS dX0_tellCrosses_37 hlocks

def rX3_isAheadOfCross_t : Room := { frames := 1, cells := 0, slots := 0, locals := 22 }
set_option maxHeartbeats 4000000 in
set_option maxRecDepth 100000 in
theorem k_X3_isAheadOfCross_t (l : Launch) (D : va_G) (cI cZ : ClassId) (ad : Nat → Nat) (u : GS) (p0 : Int32) {r : Int32} (h : g_X3_isAheadOfCross_t u p0 = some r) : MI l yX3_isAheadOfCross (wm yX3_isAheadOfCross cX3_isAheadOfCross 3 (some .boolean)) rX3_isAheadOfCross_t D [(cI, .int), (cZ, .boolean)] (wC cI cZ ad u) (wC cI cZ ad u) [.int p0, .ref (ad 19)] r := by
  intro sz
  refine Met.ofW (cc := cX3_isAheadOfCross) (maxL := 3) (ret := (some .boolean)) (by decide) rfl ?_
  intro p e s m args below meth c s₁ B hml hv
  obtain ⟨rfl, hsz, hP, hK, hD0, hZ⟩ := hv
  have hx := B.exec
  have hb := B.bytes
  have hr := B.returns
  have hts : ∀ w ∈ Wall, w.before _ s = true := fun w hw => atoms_spec (ws := wm yX3_isAheadOfCross cX3_isAheadOfCross 3 (some .boolean)) B.pre w (List.mem_cons_of_mem _ hw)
  have hown : s.vm.findClass RX3 = some m.cls := findClass_of_methodNamed B.named
  have hlocks := B.notSynchronized
  subst hsz
  have hD := hD0.self (sz := s.heap.size)
  generalize hAe : va_A (wC cI cZ ad u) s.heap.size = A at hD hZ ⊢
  have hA : ∀ q : Nat, s.heap.size ≤ q → A q := fun q h => by rw [← hAe]; exact Or.inr h
  have hS : va_S A s.heap s.heap [] := va_S.rf
  have hl := lv_entry ([.int p0, .ref (ad 19)]) (n := 3) (Nat.le_of_ble_eq_true rfl)
  rw [lg_entry_eq]
  generalize (lg_sl ([.int p0, .ref (ad 19)]) ++ List.replicate (3 - (lg_sl ([.int p0, .ref (ad 19)])).length) Slot.unset).toArray = ls at hl ⊢
  replace hl : lv_has ls 3 [(0, .int p0), (1, .ref (ad 19))] := hl
  refine w_gen (fun Q hQ => ?_)
  refine lv_iload_n hx hb dX3_isAheadOfCross_0 rfl (lv_at hl 0 rfl) ?_
  refine lv_iconst (v := 4) hx hb dX3_isAheadOfCross_1 (by decide) ?_
  refine lv_iadd hx hb dX3_isAheadOfCross_2 ?_
  obtain ⟨v1, ev1, h⟩ := gx_let h
  refine lv_topn ev1 ?_
  refine lv_istore_n (lv' := [(2, .int v1), (0, .int p0), (1, .ref (ad 19))]) hx hb dX3_isAheadOfCross_3 rfl hl (by decide) rfl (fun ls hl => ?_)
  refine lv_iload_n hx hb dX3_isAheadOfCross_4 rfl (lv_at hl 0 rfl) ?_
  refine lv_iconst (v := 0) hx hb dX3_isAheadOfCross_5 (by decide) ?_
  refine lv_bipush (v := 47) hx hb dX3_isAheadOfCross_6 (by decide) ?_
  obtain ⟨y2, hc3, h⟩ := gx_bind h
  refine cc_iSN (As := [.int v1, .int (0 : Int32), .int (47 : Int32)]) (rest := []) ⟨hx, hb, hml, hown, hts⟩ (k_X9_isWithin l D cI cZ ad u v1 (0 : Int32) (47 : Int32) hc3) ⟨va_cnB 3 hts (gwM mw_244) rfl rfl rfl (hZ.1 ("RedcrossGantry$LaneSigns", 39, yX9_isWithin) (by decide +kernel)) (hts _ mw_19) (by decide +kernel) ⟨Nat.le_of_ble_eq_true rfl, Nat.le_of_ble_eq_true rfl⟩, hts _ mw_243, trivial⟩ hK hP hD hS hA hZ rfl hl.1 rfl (Nat.le_of_ble_eq_true rfl) dX3_isAheadOfCross_8 ⟨Nat.zero_le _, Nat.zero_le _⟩ (fun H locs hP hD hS => ?_)
  refine lv_if_eq (tgt := 25) hx hb dX3_isAheadOfCross_11 (by decide) (fun c4 => ?_) (fun c4 => ?_)
  · replace h := gx_t c4 h
    refine lv_iconst (v := 0) hx hb dX3_isAheadOfCross_25 (by decide) ?_
    cases h
    exact cc_ret hx hb hr rfl hQ hK hP hD hS rfl dX3_isAheadOfCross_26 hlocks
  · replace h := gx_f c4 h
    refine lv_aload_n hx hb dX3_isAheadOfCross_14 rfl (lv_at hl 2 rfl) ?_
    refine lv_iload_n hx hb dX3_isAheadOfCross_15 rfl (lv_at hl 0 rfl) ?_
    obtain ⟨b5, h⟩ := gx_in h
    refine va_iald (D := D) hx hb hK hP 19 0 rfl rfl b5 dX3_isAheadOfCross_16 ?_
    refine lv_iconst (v := 2) hx hb dX3_isAheadOfCross_17 (by decide) ?_
    refine lv_icmp_ne (tgt := 25) hx hb dX3_isAheadOfCross_18 (by decide) (fun c6 => ?_) (fun c6 => ?_)
    · replace h := gx_f c6 h
      refine lv_iconst (v := 0) hx hb dX3_isAheadOfCross_25 (by decide) ?_
      cases h
      exact cc_ret hx hb hr rfl hQ hK hP hD hS rfl dX3_isAheadOfCross_26 hlocks
    · replace h := gx_t c6 h
      refine lv_iconst (v := 1) hx hb dX3_isAheadOfCross_21 (by decide) ?_
      refine lv_goto (tgt := 26) hx hb dX3_isAheadOfCross_22 (by decide) ?_
      cases h
      exact cc_ret hx hb hr rfl hQ hK hP hD hS rfl dX3_isAheadOfCross_26 hlocks

def rX3_setAnew : Room := { frames := 3, cells := 0, slots := 0, locals := 69 }
set_option maxHeartbeats 4000000 in
set_option maxRecDepth 100000 in
theorem k_X3_setAnew (l : Launch) (D : va_G) (cI cZ : ClassId) (ad : Nat → Nat) (u : GS) (p0 : Int32) {w' : GS} (h : g_X3_setAnew u p0 = some w') : MV l yX3_setAnew (wm yX3_setAnew cX3_setAnew 6 none) rX3_setAnew D [(cI, .int), (cZ, .boolean)] (wC cI cZ ad u) (wC cI cZ ad w') [.ref (ad 4), .int p0, .ref (ad 5), .ref (ad 6), .ref (ad 8)] := by
  intro sz
  refine Met.ofW (cc := cX3_setAnew) (maxL := 6) (ret := none) (by decide) rfl ?_
  intro p e s m args below meth c s₁ B hml hv
  obtain ⟨rfl, hsz, hP, hK, hD0, hZ⟩ := hv
  have hx := B.exec
  have hb := B.bytes
  have hr := B.returns
  have hts : ∀ w ∈ Wall, w.before _ s = true := fun w hw => atoms_spec (ws := wm yX3_setAnew cX3_setAnew 6 none) B.pre w (List.mem_cons_of_mem _ hw)
  have hown : s.vm.findClass RX3 = some m.cls := findClass_of_methodNamed B.named
  have hlocks := B.notSynchronized
  subst hsz
  have hD := hD0.self (sz := s.heap.size)
  generalize hAe : va_A (wC cI cZ ad u) s.heap.size = A at hD hZ ⊢
  have hA : ∀ q : Nat, s.heap.size ≤ q → A q := fun q h => by rw [← hAe]; exact Or.inr h
  have hS : va_S A s.heap s.heap [] := va_S.rf
  have hf15 := hts _ mw_126
  have hf9 := hts _ mw_124
  have hf18 := hts _ mw_127
  have hl := lv_entry ([.ref (ad 4), .int p0, .ref (ad 5), .ref (ad 6), .ref (ad 8)]) (n := 6) (Nat.le_of_ble_eq_true rfl)
  rw [lg_entry_eq]
  generalize (lg_sl ([.ref (ad 4), .int p0, .ref (ad 5), .ref (ad 6), .ref (ad 8)]) ++ List.replicate (6 - (lg_sl ([.ref (ad 4), .int p0, .ref (ad 5), .ref (ad 6), .ref (ad 8)])).length) Slot.unset).toArray = ls at hl ⊢
  replace hl : lv_has ls 6 [(0, .ref (ad 4)), (1, .int p0), (2, .ref (ad 5)), (3, .ref (ad 6)), (4, .ref (ad 8))] := hl
  refine w_gen (fun Q hQ => ?_)
  refine lv_iconst (v := 0) hx hb dX3_setAnew_0 (by decide) ?_
  refine lv_istore (lv' := [(5, .int (0 : Int32)), (0, .ref (ad 4)), (1, .int p0), (2, .ref (ad 5)), (3, .ref (ad 6)), (4, .ref (ad 8))]) hx hb dX3_setAnew_1 hl (by decide) rfl (fun ls hl => ?_)
  have hL3 : ∀ (k : GS → Option (GS)) (hk : ∀ (w3 : GS) (H : Heap) (locs : List Loc) (ls : Array Slot), k w3 = some w' → va_P D vwCl (wC cI cZ ad w3) H → va_D A (wC cI cZ ad w3) → va_S A s.heap H locs → lv_has ls 6 [(0, .ref (ad 4)), (1, .int p0), (2, .ref (ad 5)), (3, .ref (ad 6)), (4, .ref (ad 8))] → W p l e rX3_setAnew s m ([.ref (ad 4), .int p0, .ref (ad 5), .ref (ad 6), .ref (ad 8)] : List Value).toArray below meth c H locs 0 0 Q (F0 m 24 ls [])) (n : Nat) (x5_3 : Int32) (w3 : GS) (H : Heap) (locs : List Loc) (ls : Array Slot), lp_X3_setAnew_3 k n x5_3 w3 = some w' → va_P D vwCl (wC cI cZ ad w3) H → va_D A (wC cI cZ ad w3) → va_S A s.heap H locs → lv_has ls 6 [(0, .ref (ad 4)), (1, .int p0), (2, .ref (ad 5)), (3, .ref (ad 6)), (4, .ref (ad 8)), (5, .int x5_3)] → W p l e rX3_setAnew s m ([.ref (ad 4), .int p0, .ref (ad 5), .ref (ad 6), .ref (ad 8)] : List Value).toArray below meth c H locs 0 0 Q (F0 m 3 ls []) := by
    intro k hk n
    induction n with
    | zero =>
      intro x5_3 w3 H locs ls h
      rw [lp_X3_setAnew_3] at h
      cases h
    | succ n ih =>
      intro x5_3 w3 H locs ls h hP hD hS hl
      rw [lp_X3_setAnew_3] at h
      refine lv_iload hx hb dX3_setAnew_3 (lv_at hl 5 rfl) ?_
      refine lv_bipush (v := 48) hx hb dX3_setAnew_5 (by decide) ?_
      refine lv_icmp_ge (tgt := 24) hx hb dX3_setAnew_7 (by decide) (fun c1 => ?_) (fun c1 => ?_)
      · replace h := gx_t c1 h
        exact hk w3 _ _ _ h hP hD hS (lv_sub hl [0, 1, 2, 3, 4] rfl)
      · replace h := gx_f c1 h
        refine lv_aload_n hx hb dX3_setAnew_10 rfl (lv_at hl 0 rfl) ?_
        refine va_get (D := D) (ci := 3) (v := .ref (ad 19)) (C := RX3) (T := TX3) (N := 3) hx hb hts iX3 hown hK hP 4 rfl rfl 1 (by decide) hf15 (fun _ h9 => h9) rfl dX3_setAnew_11 ?_
        refine lv_iload hx hb dX3_setAnew_14 (lv_at hl 5 rfl) ?_
        refine lv_iconst (v := 0) hx hb dX3_setAnew_16 (by decide) ?_
        obtain ⟨b2, h⟩ := gx_in h
        refine va_iast (D := D) hx hb hK hP hD hS 19 0 rfl rfl b2 dX3_setAnew_17 (fun H locs hP hD hS => ?_)
        obtain ⟨u3, eu3, h⟩ := gx_let h
        replace hP : va_P D vwCl (wC cI cZ ad u3) H := by rw [← eu3]; exact hP
        replace hD : va_D A (wC cI cZ ad u3) := by rw [← eu3]; exact hD
        obtain ⟨v4, ev4, h⟩ := gx_let h
        refine lv_iinc (v := v4) (lv' := [(5, .int v4), (0, .ref (ad 4)), (1, .int p0), (2, .ref (ad 5)), (3, .ref (ad 6)), (4, .ref (ad 8))]) hx hb dX3_setAnew_18 hl (k := 5) rfl (by rw [← ev4]; rfl) (by decide) rfl (fun ls hl => ?_)
        refine lv_goto (tgt := 3) hx hb dX3_setAnew_21 (by decide) ?_
        exact ih v4 u3 _ _ _ h hP hD hS (lv_sub hl [1, 2, 3, 4, 5, 0] rfl)
  refine hL3 _ (fun w3 H locs ls h hP hD hS hl => ?_) FU (0 : Int32) u _ _ _ h hP hD hS (lv_sub hl [1, 2, 3, 4, 5, 0] rfl)
  refine lv_aload_n hx hb dX3_setAnew_24 rfl (lv_at hl 2 rfl) ?_
  refine lv_aload_n hx hb dX3_setAnew_25 rfl (lv_at hl 0 rfl) ?_
  refine va_get (D := D) (ci := 3) (v := .ref (ad 19)) (C := RX3) (T := TX3) (N := 3) hx hb hts iX3 hown hK hP 4 rfl rfl 1 (by decide) hf15 (fun _ h9 => h9) rfl dX3_setAnew_26 ?_
  obtain ⟨y5, hc6, h⟩ := gx_bind h
  refine cc_vV (As := [.ref (ad 19)]) (rest := []) ⟨hx, hb, hml, hown, hts⟩ (k_X6_tellCrosses l D cI cZ ad w3 hc6) (cwV 1 hts (gwV mw_231 mw_232 mw_233 mw_24 mw_234) rfl rfl rfl (by decide +kernel) ⟨Nat.le_of_ble_eq_true rfl, Nat.le_of_ble_eq_true rfl⟩) hK hP hD hS hA hZ (ci := 6) (q0 := 5) rfl rfl rfl hl.1 rfl (Nat.le_of_ble_eq_true rfl) dX3_setAnew_29 ⟨Nat.zero_le _, Nat.zero_le _⟩ (fun H locs hP hD hS => ?_)
  refine lv_aload_n hx hb dX3_setAnew_32 rfl (lv_at hl 3 rfl) ?_
  refine lv_aload_n hx hb dX3_setAnew_33 rfl (lv_at hl 0 rfl) ?_
  refine va_get (D := D) (ci := 3) (v := .ref (ad 19)) (C := RX3) (T := TX3) (N := 3) hx hb hts iX3 hown hK hP 4 rfl rfl 1 (by decide) hf15 (fun _ h9 => h9) rfl dX3_setAnew_34 ?_
  obtain ⟨y7, hc8, h⟩ := gx_bind h
  refine cc_vV (As := [.ref (ad 19)]) (rest := []) ⟨hx, hb, hml, hown, hts⟩ (k_X2_tellCrosses l D cI cZ ad y5 hc8) (cwV 1 hts (gwV mw_238 mw_239 mw_240 mw_25 mw_241) rfl rfl rfl (by decide +kernel) ⟨Nat.le_of_ble_eq_true rfl, Nat.le_of_ble_eq_true rfl⟩) hK hP hD hS hA hZ (ci := 2) (q0 := 6) rfl rfl rfl hl.1 rfl (Nat.le_of_ble_eq_true rfl) dX3_setAnew_37 ⟨Nat.zero_le _, Nat.zero_le _⟩ (fun H locs hP hD hS => ?_)
  refine lv_aload hx hb dX3_setAnew_40 (lv_at hl 4 rfl) ?_
  refine lv_aload_n hx hb dX3_setAnew_42 rfl (lv_at hl 0 rfl) ?_
  refine va_get (D := D) (ci := 3) (v := .ref (ad 19)) (C := RX3) (T := TX3) (N := 3) hx hb hts iX3 hown hK hP 4 rfl rfl 1 (by decide) hf15 (fun _ h9 => h9) rfl dX3_setAnew_43 ?_
  refine lv_iload_n hx hb dX3_setAnew_46 rfl (lv_at hl 1 rfl) ?_
  obtain ⟨y9, hc10, h⟩ := gx_bind h
  refine cc_vV (As := [.ref (ad 19), .int p0]) (rest := []) ⟨hx, hb, hml, hown, hts⟩ (k_X0_tellCrosses l D cI cZ ad y7 p0 hc10) (cwV 2 hts (gwV mw_245 mw_246 mw_247 mw_27 mw_248) rfl rfl rfl (by decide +kernel) ⟨Nat.le_of_ble_eq_true rfl, Nat.le_of_ble_eq_true rfl⟩) hK hP hD hS hA hZ (ci := 0) (q0 := 8) rfl rfl rfl hl.1 rfl (Nat.le_of_ble_eq_true rfl) dX3_setAnew_47 ⟨Nat.zero_le _, Nat.zero_le _⟩ (fun H locs hP hD hS => ?_)
  refine lv_iconst (v := 0) hx hb dX3_setAnew_50 (by decide) ?_
  refine lv_istore (lv' := [(5, .int (0 : Int32)), (0, .ref (ad 4)), (1, .int p0), (2, .ref (ad 5)), (3, .ref (ad 6)), (4, .ref (ad 8))]) hx hb dX3_setAnew_51 hl (by decide) rfl (fun ls hl => ?_)
  have hL53 : ∀ (k : GS → Option (GS)) (hk : ∀ (w53 : GS) (H : Heap) (locs : List Loc) (ls : Array Slot), k w53 = some w' → va_P D vwCl (wC cI cZ ad w53) H → va_D A (wC cI cZ ad w53) → va_S A s.heap H locs → lv_has ls 6 [(0, .ref (ad 4))] → W p l e rX3_setAnew s m ([.ref (ad 4), .int p0, .ref (ad 5), .ref (ad 6), .ref (ad 8)] : List Value).toArray below meth c H locs 0 0 Q (F0 m 91 ls [])) (n : Nat) (x5_53 : Int32) (w53 : GS) (H : Heap) (locs : List Loc) (ls : Array Slot), lp_X3_setAnew_53 k n x5_53 w53 = some w' → va_P D vwCl (wC cI cZ ad w53) H → va_D A (wC cI cZ ad w53) → va_S A s.heap H locs → lv_has ls 6 [(0, .ref (ad 4)), (5, .int x5_53)] → W p l e rX3_setAnew s m ([.ref (ad 4), .int p0, .ref (ad 5), .ref (ad 6), .ref (ad 8)] : List Value).toArray below meth c H locs 0 0 Q (F0 m 53 ls []) := by
    intro k hk n
    induction n with
    | zero =>
      intro x5_53 w53 H locs ls h
      rw [lp_X3_setAnew_53] at h
      cases h
    | succ n ih =>
      intro x5_53 w53 H locs ls h hP hD hS hl
      rw [lp_X3_setAnew_53] at h
      refine lv_iload hx hb dX3_setAnew_53 (lv_at hl 1 rfl) ?_
      refine lv_bipush (v := 48) hx hb dX3_setAnew_55 (by decide) ?_
      refine lv_icmp_ge (tgt := 91) hx hb dX3_setAnew_57 (by decide) (fun c11 => ?_) (fun c11 => ?_)
      · replace h := gx_t c11 h
        exact hk w53 _ _ _ h hP hD hS (lv_sub hl [0] rfl)
      · replace h := gx_f c11 h
        refine lv_aload_n hx hb dX3_setAnew_60 rfl (lv_at hl 0 rfl) ?_
        refine va_get (D := D) (ci := 3) (v := .ref (ad 18)) (C := RX3) (T := TX3) (N := 3) hx hb hts iX3 hown hK hP 4 rfl rfl 0 (by decide) hf9 (fun _ h9 => h9) rfl dX3_setAnew_61 ?_
        refine lv_iload hx hb dX3_setAnew_64 (lv_at hl 1 rfl) ?_
        obtain ⟨b12, h⟩ := gx_in h
        refine va_iald (D := D) hx hb hK hP 18 0 rfl rfl b12 dX3_setAnew_66 ?_
        refine lv_iconst (v := (-1)) hx hb dX3_setAnew_67 (by decide) ?_
        obtain ⟨j85_13, ej85_13, h⟩ := gx_let h
        have hj85_13 : ∀ (w85 : GS) (H : Heap) (locs : List Loc) (ls : Array Slot), j85_13 w85 = some w' → va_P D vwCl (wC cI cZ ad w85) H → va_D A (wC cI cZ ad w85) → va_S A s.heap H locs → lv_has ls 6 [(0, .ref (ad 4)), (5, .int x5_53)] → W p l e rX3_setAnew s m ([.ref (ad 4), .int p0, .ref (ad 5), .ref (ad 6), .ref (ad 8)] : List Value).toArray below meth c H locs 0 0 Q (F0 m 85 ls []) := by
          intro w85 H locs ls h hP hD hS hl
          subst ej85_13
          obtain ⟨v14, ev14, h⟩ := gx_let h
          refine lv_iinc (v := v14) (lv' := [(5, .int v14), (0, .ref (ad 4))]) hx hb dX3_setAnew_85 hl (k := 1) rfl (by rw [← ev14]; rfl) (by decide) rfl (fun ls hl => ?_)
          refine lv_goto (tgt := 53) hx hb dX3_setAnew_88 (by decide) ?_
          exact ih v14 w85 _ _ _ h hP hD hS (lv_sub hl [1, 0] rfl)
        refine lv_icmp_eq (tgt := 85) hx hb dX3_setAnew_68 (by decide) (fun c15 => ?_) (fun c15 => ?_)
        · replace h := gx_t c15 h
          exact hj85_13 w53 _ _ _ h hP hD hS (lv_sub hl [0, 1] rfl)
        · replace h := gx_f c15 h
          refine lv_aload_n hx hb dX3_setAnew_71 rfl (lv_at hl 0 rfl) ?_
          refine va_get (D := D) (ci := 3) (v := .ref (ad 19)) (C := RX3) (T := TX3) (N := 3) hx hb hts iX3 hown hK hP 4 rfl rfl 1 (by decide) hf15 (fun _ h9 => h9) rfl dX3_setAnew_72 ?_
          refine lv_iload hx hb dX3_setAnew_75 (lv_at hl 1 rfl) ?_
          refine lv_aload_n hx hb dX3_setAnew_77 rfl (lv_at hl 0 rfl) ?_
          refine va_get (D := D) (ci := 3) (v := .ref (ad 18)) (C := RX3) (T := TX3) (N := 3) hx hb hts iX3 hown hK hP 4 rfl rfl 0 (by decide) hf9 (fun _ h9 => h9) rfl dX3_setAnew_78 ?_
          refine lv_iload hx hb dX3_setAnew_81 (lv_at hl 1 rfl) ?_
          obtain ⟨b16, h⟩ := gx_in h
          refine va_iald (D := D) hx hb hK hP 18 0 rfl rfl b16 dX3_setAnew_83 ?_
          obtain ⟨b17, h⟩ := gx_in h
          refine va_iast (D := D) hx hb hK hP hD hS 19 0 rfl rfl b17 dX3_setAnew_84 (fun H locs hP hD hS => ?_)
          obtain ⟨u18, eu18, h⟩ := gx_let h
          replace hP : va_P D vwCl (wC cI cZ ad u18) H := by rw [← eu18]; exact hP
          replace hD : va_D A (wC cI cZ ad u18) := by rw [← eu18]; exact hD
          exact hj85_13 u18 _ _ _ h hP hD hS (lv_sub hl [0, 1] rfl)
  refine hL53 _ (fun w53 H locs ls h hP hD hS hl => ?_) FU (0 : Int32) y9 _ _ _ h hP hD hS (lv_sub hl [1, 0] rfl)
  refine lv_iconst (v := 0) hx hb dX3_setAnew_91 (by decide) ?_
  refine lv_istore (lv' := [(5, .int (0 : Int32)), (0, .ref (ad 4))]) hx hb dX3_setAnew_92 hl (by decide) rfl (fun ls hl => ?_)
  have hL94 : ∀ (k : GS → Option (GS)) (hk : ∀ (w94 : GS) (H : Heap) (locs : List Loc) (ls : Array Slot), k w94 = some w' → va_P D vwCl (wC cI cZ ad w94) H → va_D A (wC cI cZ ad w94) → va_S A s.heap H locs → lv_has ls 6 [] → W p l e rX3_setAnew s m ([.ref (ad 4), .int p0, .ref (ad 5), .ref (ad 6), .ref (ad 8)] : List Value).toArray below meth c H locs 0 0 Q (F0 m 147 ls [])) (n : Nat) (x5_94 : Int32) (w94 : GS) (H : Heap) (locs : List Loc) (ls : Array Slot), lp_X3_setAnew_94 k n x5_94 w94 = some w' → va_P D vwCl (wC cI cZ ad w94) H → va_D A (wC cI cZ ad w94) → va_S A s.heap H locs → lv_has ls 6 [(0, .ref (ad 4)), (5, .int x5_94)] → W p l e rX3_setAnew s m ([.ref (ad 4), .int p0, .ref (ad 5), .ref (ad 6), .ref (ad 8)] : List Value).toArray below meth c H locs 0 0 Q (F0 m 94 ls []) := by
    intro k hk n
    induction n with
    | zero =>
      intro x5_94 w94 H locs ls h
      rw [lp_X3_setAnew_94] at h
      cases h
    | succ n ih =>
      intro x5_94 w94 H locs ls h hP hD hS hl
      rw [lp_X3_setAnew_94] at h
      refine lv_iload hx hb dX3_setAnew_94 (lv_at hl 1 rfl) ?_
      refine lv_bipush (v := 48) hx hb dX3_setAnew_96 (by decide) ?_
      refine lv_icmp_ge (tgt := 147) hx hb dX3_setAnew_98 (by decide) (fun c19 => ?_) (fun c19 => ?_)
      · replace h := gx_t c19 h
        exact hk w94 _ _ _ h hP hD hS (lv_sub hl [] rfl)
      · replace h := gx_f c19 h
        refine lv_aload_n hx hb dX3_setAnew_101 rfl (lv_at hl 0 rfl) ?_
        refine va_get (D := D) (ci := 3) (v := .ref (ad 20)) (C := RX3) (T := TX3) (N := 3) hx hb hts iX3 hown hK hP 4 rfl rfl 2 (by decide) hf18 (fun _ h9 => h9) rfl dX3_setAnew_102 ?_
        refine lv_iload hx hb dX3_setAnew_105 (lv_at hl 1 rfl) ?_
        refine lv_aload_n hx hb dX3_setAnew_107 rfl (lv_at hl 0 rfl) ?_
        refine va_get (D := D) (ci := 3) (v := .ref (ad 19)) (C := RX3) (T := TX3) (N := 3) hx hb hts iX3 hown hK hP 4 rfl rfl 1 (by decide) hf15 (fun _ h9 => h9) rfl dX3_setAnew_108 ?_
        refine lv_iload hx hb dX3_setAnew_111 (lv_at hl 1 rfl) ?_
        obtain ⟨b20, h⟩ := gx_in h
        refine va_iald (D := D) hx hb hK hP 19 0 rfl rfl b20 dX3_setAnew_113 ?_
        obtain ⟨j140_21, ej140_21, h⟩ := gx_let h
        have hj140_21 : ∀ (z0_140 : Int32) (H : Heap) (locs : List Loc) (ls : Array Slot), j140_21 z0_140 = some w' → va_P D vwCl (wC cI cZ ad w94) H → va_D A (wC cI cZ ad w94) → va_S A s.heap H locs → lv_has ls 6 [(0, .ref (ad 4)), (5, .int x5_94)] → W p l e rX3_setAnew s m ([.ref (ad 4), .int p0, .ref (ad 5), .ref (ad 6), .ref (ad 8)] : List Value).toArray below meth c H locs 0 0 Q (F0 m 140 ls [.int z0_140, .int x5_94, .ref (ad 20)]) := by
          intro z0_140 H locs ls h hP hD hS hl
          subst ej140_21
          obtain ⟨b22, h⟩ := gx_in h
          refine va_iast (D := D) hx hb hK hP hD hS 20 0 rfl rfl b22 dX3_setAnew_140 (fun H locs hP hD hS => ?_)
          obtain ⟨u23, eu23, h⟩ := gx_let h
          replace hP : va_P D vwCl (wC cI cZ ad u23) H := by rw [← eu23]; exact hP
          replace hD : va_D A (wC cI cZ ad u23) := by rw [← eu23]; exact hD
          obtain ⟨v24, ev24, h⟩ := gx_let h
          refine lv_iinc (v := v24) (lv' := [(5, .int v24), (0, .ref (ad 4))]) hx hb dX3_setAnew_141 hl (k := 1) rfl (by rw [← ev24]; rfl) (by decide) rfl (fun ls hl => ?_)
          refine lv_goto (tgt := 94) hx hb dX3_setAnew_144 (by decide) ?_
          exact ih v24 u23 _ _ _ h hP hD hS (lv_sub hl [1, 0] rfl)
        obtain ⟨j133_25, ej133_25, h⟩ := gx_let h
        have hj133_25 : ∀ (H : Heap) (locs : List Loc) (ls : Array Slot), j133_25 () = some w' → va_P D vwCl (wC cI cZ ad w94) H → va_D A (wC cI cZ ad w94) → va_S A s.heap H locs → lv_has ls 6 [(0, .ref (ad 4)), (5, .int x5_94)] → W p l e rX3_setAnew s m ([.ref (ad 4), .int p0, .ref (ad 5), .ref (ad 6), .ref (ad 8)] : List Value).toArray below meth c H locs 0 0 Q (F0 m 133 ls [.int x5_94, .ref (ad 20)]) := by
          intro  H locs ls h hP hD hS hl
          subst ej133_25
          refine lv_aload_n hx hb dX3_setAnew_133 rfl (lv_at hl 0 rfl) ?_
          refine va_get (D := D) (ci := 3) (v := .ref (ad 19)) (C := RX3) (T := TX3) (N := 3) hx hb hts iX3 hown hK hP 4 rfl rfl 1 (by decide) hf15 (fun _ h9 => h9) rfl dX3_setAnew_134 ?_
          refine lv_iload hx hb dX3_setAnew_137 (lv_at hl 1 rfl) ?_
          obtain ⟨b26, h⟩ := gx_in h
          refine va_iald (D := D) hx hb hK hP 19 0 rfl rfl b26 dX3_setAnew_139 ?_
          exact hj140_21 (cL_told w94 x5_94.toNatClampNeg) _ _ _ h hP hD hS (lv_sub hl [0, 1] rfl)
        refine lv_if_ne (tgt := 133) hx hb dX3_setAnew_114 (by decide) (fun c27 => ?_) (fun c27 => ?_)
        · replace h := gx_f c27 h
          exact hj133_25 _ _ _ h hP hD hS (lv_sub hl [0, 1] rfl)
        · replace h := gx_t c27 h
          refine lv_iload hx hb dX3_setAnew_117 (lv_at hl 1 rfl) ?_
          refine lv_aload_n hx hb dX3_setAnew_119 rfl (lv_at hl 0 rfl) ?_
          refine va_get (D := D) (ci := 3) (v := .ref (ad 19)) (C := RX3) (T := TX3) (N := 3) hx hb hts iX3 hown hK hP 4 rfl rfl 1 (by decide) hf15 (fun _ h9 => h9) rfl dX3_setAnew_120 ?_
          obtain ⟨y28, hc29, h⟩ := gx_bind h
          refine cc_iS (As := [.int x5_94, .ref (ad 19)]) (rest := [.int x5_94, .ref (ad 20)]) ⟨hx, hb, hml, hown, hts⟩ (k_X3_isAheadOfCross_t l D cI cZ ad w94 x5_94 hc29) (va_cwS 2 hts (gwS mw_259 mw_260 mw_23 mw_261) rfl rfl rfl (by decide +kernel) ⟨Nat.le_of_ble_eq_true rfl, Nat.le_of_ble_eq_true rfl⟩) hK hP hD hS hA hZ rfl hl.1 rfl (Nat.le_of_ble_eq_true rfl) dX3_setAnew_123 ⟨Nat.zero_le _, Nat.zero_le _⟩ (fun H locs hP hD hS => ?_)
          refine lv_if_eq (tgt := 133) hx hb dX3_setAnew_126 (by decide) (fun c30 => ?_) (fun c30 => ?_)
          · replace h := gx_t c30 h
            exact hj133_25 _ _ _ h hP hD hS (lv_sub hl [0, 1] rfl)
          · replace h := gx_f c30 h
            refine lv_iconst (v := 1) hx hb dX3_setAnew_129 (by decide) ?_
            refine lv_goto (tgt := 140) hx hb dX3_setAnew_130 (by decide) ?_
            exact hj140_21 (1 : Int32) _ _ _ h hP hD hS (lv_sub hl [0, 1] rfl)
  refine hL94 _ (fun w94 H locs ls h hP hD hS hl => ?_) FU (0 : Int32) w53 _ _ _ h hP hD hS (lv_sub hl [1, 0] rfl)
  cases h
  exact cc_vret hx hb hr hQ hK hP hD hS dX3_setAnew_147 hlocks

def rX9_setLaneSigns : Room := { frames := 4, cells := 0, slots := 0, locals := 94 }
set_option maxHeartbeats 4000000 in
set_option maxRecDepth 100000 in
theorem k_X9_setLaneSigns (l : Launch) (D : va_G) (cI cZ : ClassId) (ad : Nat → Nat) (u : GS) {w' : GS} (h : g_X9_setLaneSigns u = some w') : MV l yX9_setLaneSigns (wm yX9_setLaneSigns cX9_setLaneSigns 1 none) rX9_setLaneSigns D [(cI, .int), (cZ, .boolean)] (wC cI cZ ad u) (wC cI cZ ad w') [.ref (ad 0)] := by
  intro sz
  refine Met.ofW (cc := cX9_setLaneSigns) (maxL := 1) (ret := none) (by decide) rfl ?_
  intro p e s m args below meth c s₁ B hml hv
  obtain ⟨rfl, hsz, hP, hK, hD0, hZ⟩ := hv
  have hx := B.exec
  have hb := B.bytes
  have hr := B.returns
  have hts : ∀ w ∈ Wall, w.before _ s = true := fun w hw => atoms_spec (ws := wm yX9_setLaneSigns cX9_setLaneSigns 1 none) B.pre w (List.mem_cons_of_mem _ hw)
  have hown : s.vm.findClass RX9 = some m.cls := findClass_of_methodNamed B.named
  have hlocks := B.notSynchronized
  subst hsz
  have hD := hD0.self (sz := s.heap.size)
  generalize hAe : va_A (wC cI cZ ad u) s.heap.size = A at hD hZ ⊢
  have hA : ∀ q : Nat, s.heap.size ≤ q → A q := fun q h => by rw [← hAe]; exact Or.inr h
  have hS : va_S A s.heap s.heap [] := va_S.rf
  have hf37 := hts _ mw_278
  have hf7 := hts _ mw_274
  have hf44 := hts _ mw_279
  have hf51 := hts _ mw_280
  have hf65 := hts _ mw_282
  have hl := lv_entry ([.ref (ad 0)]) (n := 1) (Nat.le_of_ble_eq_true rfl)
  rw [lg_entry_eq]
  generalize (lg_sl ([.ref (ad 0)]) ++ List.replicate (1 - (lg_sl ([.ref (ad 0)])).length) Slot.unset).toArray = ls at hl ⊢
  replace hl : lv_has ls 1 [(0, .ref (ad 0))] := hl
  refine w_gen (fun Q hQ => ?_)
  refine lv_aload_n hx hb dX9_setLaneSigns_0 rfl (lv_at hl 0 rfl) ?_
  refine va_get (D := D) (ci := 9) (v := .ref (ad 4)) (C := RX9) (T := TX9) (N := 10) hx hb hts iX9 hown hK hP 0 rfl rfl 4 (by decide) hf37 (fun _ h9 => h9) rfl dX9_setLaneSigns_1 ?_
  refine lv_aload_n hx hb dX9_setLaneSigns_4 rfl (lv_at hl 0 rfl) ?_
  refine va_get (D := D) (ci := 9) (v := .int (c_minute u)) (C := RX9) (T := TX9) (N := 10) hx hb hts iX9 hown hK hP 0 rfl rfl 0 (by decide) hf7 (fun _ h9 => h9) rfl dX9_setLaneSigns_5 ?_
  refine lv_aload_n hx hb dX9_setLaneSigns_8 rfl (lv_at hl 0 rfl) ?_
  refine va_get (D := D) (ci := 9) (v := .ref (ad 5)) (C := RX9) (T := TX9) (N := 10) hx hb hts iX9 hown hK hP 0 rfl rfl 5 (by decide) hf44 (fun _ h9 => h9) rfl dX9_setLaneSigns_9 ?_
  refine lv_aload_n hx hb dX9_setLaneSigns_12 rfl (lv_at hl 0 rfl) ?_
  refine va_get (D := D) (ci := 9) (v := .ref (ad 6)) (C := RX9) (T := TX9) (N := 10) hx hb hts iX9 hown hK hP 0 rfl rfl 6 (by decide) hf51 (fun _ h9 => h9) rfl dX9_setLaneSigns_13 ?_
  refine lv_aload_n hx hb dX9_setLaneSigns_16 rfl (lv_at hl 0 rfl) ?_
  refine va_get (D := D) (ci := 9) (v := .ref (ad 8)) (C := RX9) (T := TX9) (N := 10) hx hb hts iX9 hown hK hP 0 rfl rfl 8 (by decide) hf65 (fun _ h9 => h9) rfl dX9_setLaneSigns_17 ?_
  obtain ⟨y1, hc2, h⟩ := gx_bind h
  refine cc_vV (As := [.int (c_minute u), .ref (ad 5), .ref (ad 6), .ref (ad 8)]) (rest := []) ⟨hx, hb, hml, hown, hts⟩ (k_X3_setAnew l D cI cZ ad u (c_minute u) hc2) (cwV 4 hts (gwV mw_227 mw_228 mw_229 mw_23 mw_230) rfl rfl rfl (by decide +kernel) ⟨Nat.le_of_ble_eq_true rfl, Nat.le_of_ble_eq_true rfl⟩) hK hP hD hS hA hZ (ci := 3) (q0 := 4) rfl rfl rfl hl.1 rfl (Nat.le_of_ble_eq_true rfl) dX9_setLaneSigns_20 ⟨Nat.zero_le _, Nat.zero_le _⟩ (fun H locs hP hD hS => ?_)
  cases h
  exact cc_vret hx hb hr hQ hK hP hD hS dX9_setLaneSigns_23 hlocks

def rX7_areLawful : Room := { frames := 0, cells := 0, slots := 0, locals := 0 }
set_option maxHeartbeats 4000000 in
set_option maxRecDepth 100000 in
theorem k_X7_areLawful (l : Launch) (D : va_G) (cI cZ : ClassId) (ad : Nat → Nat) (u : GS) {r : Int32} (h : g_X7_areLawful u = some r) : MI l yX7_areLawful (wm yX7_areLawful cX7_areLawful 2 (some .boolean)) rX7_areLawful D [(cI, .int), (cZ, .boolean)] (wC cI cZ ad u) (wC cI cZ ad u) [.ref (ad 3)] r := by
  intro sz
  refine Met.ofW (cc := cX7_areLawful) (maxL := 2) (ret := (some .boolean)) (by decide) rfl ?_
  intro p e s m args below meth c s₁ B hml hv
  obtain ⟨rfl, hsz, hP, hK, hD0, hZ⟩ := hv
  have hx := B.exec
  have hb := B.bytes
  have hr := B.returns
  have hts : ∀ w ∈ Wall, w.before _ s = true := fun w hw => atoms_spec (ws := wm yX7_areLawful cX7_areLawful 2 (some .boolean)) B.pre w (List.mem_cons_of_mem _ hw)
  have hown : s.vm.findClass RX7 = some m.cls := findClass_of_methodNamed B.named
  have hlocks := B.notSynchronized
  subst hsz
  have hD := hD0.self (sz := s.heap.size)
  generalize hAe : va_A (wC cI cZ ad u) s.heap.size = A at hD hZ ⊢
  have hA : ∀ q : Nat, s.heap.size ≤ q → A q := fun q h => by rw [← hAe]; exact Or.inr h
  have hS : va_S A s.heap s.heap [] := va_S.rf
  have hf15 := hts _ mw_104
  have hl := lv_entry ([.ref (ad 3)]) (n := 2) (Nat.le_of_ble_eq_true rfl)
  rw [lg_entry_eq]
  generalize (lg_sl ([.ref (ad 3)]) ++ List.replicate (2 - (lg_sl ([.ref (ad 3)])).length) Slot.unset).toArray = ls at hl ⊢
  replace hl : lv_has ls 2 [(0, .ref (ad 3))] := hl
  refine w_gen (fun Q hQ => ?_)
  refine lv_iconst (v := 0) hx hb dX7_areLawful_0 (by decide) ?_
  refine lv_istore_n (lv' := [(1, .int (0 : Int32)), (0, .ref (ad 3))]) hx hb dX7_areLawful_1 rfl hl (by decide) rfl (fun ls hl => ?_)
  have hL2 : ∀ (k : Unit → Option (Int32)) (hk : ∀ (H : Heap) (locs : List Loc) (ls : Array Slot), k () = some r → va_P D vwCl (wC cI cZ ad u) H → va_D A (wC cI cZ ad u) → va_S A s.heap H locs → lv_has ls 2 [] → W p l e rX7_areLawful s m ([.ref (ad 3)] : List Value).toArray below meth c H locs 0 0 Q (F0 m 38 ls [])) (n : Nat) (x1_2 : Int32) (H : Heap) (locs : List Loc) (ls : Array Slot), lp_X7_areLawful_2 u k n x1_2 = some r → va_P D vwCl (wC cI cZ ad u) H → va_D A (wC cI cZ ad u) → va_S A s.heap H locs → lv_has ls 2 [(0, .ref (ad 3)), (1, .int x1_2)] → W p l e rX7_areLawful s m ([.ref (ad 3)] : List Value).toArray below meth c H locs 0 0 Q (F0 m 2 ls []) := by
    intro k hk n
    induction n with
    | zero =>
      intro x1_2 H locs ls h
      rw [lp_X7_areLawful_2] at h
      cases h
    | succ n ih =>
      intro x1_2 H locs ls h hP hD hS hl
      rw [lp_X7_areLawful_2] at h
      refine lv_iload_n hx hb dX7_areLawful_2 rfl (lv_at hl 1 rfl) ?_
      refine lv_iconst (v := 1) hx hb dX7_areLawful_3 (by decide) ?_
      refine lv_iadd hx hb dX7_areLawful_4 ?_
      refine lv_bipush (v := 12) hx hb dX7_areLawful_5 (by decide) ?_
      refine lv_icmp_ge (tgt := 38) hx hb dX7_areLawful_7 (by decide) (fun c1 => ?_) (fun c1 => ?_)
      · replace h := gx_t c1 h
        exact hk _ _ _ h hP hD hS (lv_sub hl [] rfl)
      · replace h := gx_f c1 h
        refine lv_aload_n hx hb dX7_areLawful_10 rfl (lv_at hl 0 rfl) ?_
        refine va_get (D := D) (ci := 7) (v := .ref (ad 16)) (C := RX7) (T := TX7) (N := 4) hx hb hts iX7 hown hK hP 3 rfl rfl 1 (by decide) hf15 (fun _ h9 => h9) rfl dX7_areLawful_11 ?_
        refine lv_iload_n hx hb dX7_areLawful_14 rfl (lv_at hl 1 rfl) ?_
        obtain ⟨b2, h⟩ := gx_in h
        refine va_iald (D := D) hx hb hK hP 16 0 rfl rfl b2 dX7_areLawful_15 ?_
        refine lv_aload_n hx hb dX7_areLawful_16 rfl (lv_at hl 0 rfl) ?_
        refine va_get (D := D) (ci := 7) (v := .ref (ad 16)) (C := RX7) (T := TX7) (N := 4) hx hb hts iX7 hown hK hP 3 rfl rfl 1 (by decide) hf15 (fun _ h9 => h9) rfl dX7_areLawful_17 ?_
        refine lv_iload_n hx hb dX7_areLawful_20 rfl (lv_at hl 1 rfl) ?_
        refine lv_iconst (v := 1) hx hb dX7_areLawful_21 (by decide) ?_
        refine lv_iadd hx hb dX7_areLawful_22 ?_
        obtain ⟨b3, h⟩ := gx_in h
        refine va_iald (D := D) hx hb hK hP 16 0 rfl rfl b3 dX7_areLawful_23 ?_
        refine lv_bipush (v := 20) hx hb dX7_areLawful_24 (by decide) ?_
        refine lv_iadd hx hb dX7_areLawful_26 ?_
        refine lv_icmp_le (tgt := 32) hx hb dX7_areLawful_27 (by decide) (fun c4 => ?_) (fun c4 => ?_)
        · replace h := gx_t c4 h
          obtain ⟨v5, ev5, h⟩ := gx_let h
          refine lv_iinc (v := v5) (lv' := [(1, .int v5), (0, .ref (ad 3))]) hx hb dX7_areLawful_32 hl (k := 1) rfl (by rw [← ev5]; rfl) (by decide) rfl (fun ls hl => ?_)
          refine lv_goto (tgt := 2) hx hb dX7_areLawful_35 (by decide) ?_
          exact ih v5 _ _ _ h hP hD hS (lv_sub hl [1, 0] rfl)
        · replace h := gx_f c4 h
          refine lv_iconst (v := 0) hx hb dX7_areLawful_30 (by decide) ?_
          cases h
          exact cc_ret hx hb hr rfl hQ hK hP hD hS rfl dX7_areLawful_31 hlocks
  refine hL2 _ (fun H locs ls h hP hD hS hl => ?_) FU (0 : Int32) _ _ _ h hP hD hS (lv_sub hl [1, 0] rfl)
  refine lv_iconst (v := 1) hx hb dX7_areLawful_38 (by decide) ?_
  cases h
  exact cc_ret hx hb hr rfl hQ hK hP hD hS rfl dX7_areLawful_39 hlocks

def rX3_isAheadOfCross_s : Room := { frames := 1, cells := 0, slots := 0, locals := 22 }
set_option maxHeartbeats 4000000 in
set_option maxRecDepth 100000 in
theorem k_X3_isAheadOfCross_s (l : Launch) (D : va_G) (cI cZ : ClassId) (ad : Nat → Nat) (u : GS) (p0 : Int32) {r : Int32} (h : g_X3_isAheadOfCross_s u p0 = some r) : MI l yX3_isAheadOfCross (wm yX3_isAheadOfCross cX3_isAheadOfCross 3 (some .boolean)) rX3_isAheadOfCross_s D [(cI, .int), (cZ, .boolean)] (wC cI cZ ad u) (wC cI cZ ad u) [.int p0, .ref (ad 20)] r := by
  intro sz
  refine Met.ofW (cc := cX3_isAheadOfCross) (maxL := 3) (ret := (some .boolean)) (by decide) rfl ?_
  intro p e s m args below meth c s₁ B hml hv
  obtain ⟨rfl, hsz, hP, hK, hD0, hZ⟩ := hv
  have hx := B.exec
  have hb := B.bytes
  have hr := B.returns
  have hts : ∀ w ∈ Wall, w.before _ s = true := fun w hw => atoms_spec (ws := wm yX3_isAheadOfCross cX3_isAheadOfCross 3 (some .boolean)) B.pre w (List.mem_cons_of_mem _ hw)
  have hown : s.vm.findClass RX3 = some m.cls := findClass_of_methodNamed B.named
  have hlocks := B.notSynchronized
  subst hsz
  have hD := hD0.self (sz := s.heap.size)
  generalize hAe : va_A (wC cI cZ ad u) s.heap.size = A at hD hZ ⊢
  have hA : ∀ q : Nat, s.heap.size ≤ q → A q := fun q h => by rw [← hAe]; exact Or.inr h
  have hS : va_S A s.heap s.heap [] := va_S.rf
  have hl := lv_entry ([.int p0, .ref (ad 20)]) (n := 3) (Nat.le_of_ble_eq_true rfl)
  rw [lg_entry_eq]
  generalize (lg_sl ([.int p0, .ref (ad 20)]) ++ List.replicate (3 - (lg_sl ([.int p0, .ref (ad 20)])).length) Slot.unset).toArray = ls at hl ⊢
  replace hl : lv_has ls 3 [(0, .int p0), (1, .ref (ad 20))] := hl
  refine w_gen (fun Q hQ => ?_)
  refine lv_iload_n hx hb dX3_isAheadOfCross_0 rfl (lv_at hl 0 rfl) ?_
  refine lv_iconst (v := 4) hx hb dX3_isAheadOfCross_1 (by decide) ?_
  refine lv_iadd hx hb dX3_isAheadOfCross_2 ?_
  obtain ⟨v1, ev1, h⟩ := gx_let h
  refine lv_topn ev1 ?_
  refine lv_istore_n (lv' := [(2, .int v1), (0, .int p0), (1, .ref (ad 20))]) hx hb dX3_isAheadOfCross_3 rfl hl (by decide) rfl (fun ls hl => ?_)
  refine lv_iload_n hx hb dX3_isAheadOfCross_4 rfl (lv_at hl 0 rfl) ?_
  refine lv_iconst (v := 0) hx hb dX3_isAheadOfCross_5 (by decide) ?_
  refine lv_bipush (v := 47) hx hb dX3_isAheadOfCross_6 (by decide) ?_
  obtain ⟨y2, hc3, h⟩ := gx_bind h
  refine cc_iSN (As := [.int v1, .int (0 : Int32), .int (47 : Int32)]) (rest := []) ⟨hx, hb, hml, hown, hts⟩ (k_X9_isWithin l D cI cZ ad u v1 (0 : Int32) (47 : Int32) hc3) ⟨va_cnB 3 hts (gwM mw_244) rfl rfl rfl (hZ.1 ("RedcrossGantry$LaneSigns", 39, yX9_isWithin) (by decide +kernel)) (hts _ mw_19) (by decide +kernel) ⟨Nat.le_of_ble_eq_true rfl, Nat.le_of_ble_eq_true rfl⟩, hts _ mw_243, trivial⟩ hK hP hD hS hA hZ rfl hl.1 rfl (Nat.le_of_ble_eq_true rfl) dX3_isAheadOfCross_8 ⟨Nat.zero_le _, Nat.zero_le _⟩ (fun H locs hP hD hS => ?_)
  refine lv_if_eq (tgt := 25) hx hb dX3_isAheadOfCross_11 (by decide) (fun c4 => ?_) (fun c4 => ?_)
  · replace h := gx_t c4 h
    refine lv_iconst (v := 0) hx hb dX3_isAheadOfCross_25 (by decide) ?_
    cases h
    exact cc_ret hx hb hr rfl hQ hK hP hD hS rfl dX3_isAheadOfCross_26 hlocks
  · replace h := gx_f c4 h
    refine lv_aload_n hx hb dX3_isAheadOfCross_14 rfl (lv_at hl 2 rfl) ?_
    refine lv_iload_n hx hb dX3_isAheadOfCross_15 rfl (lv_at hl 0 rfl) ?_
    obtain ⟨b5, h⟩ := gx_in h
    refine va_iald (D := D) hx hb hK hP 20 0 rfl rfl b5 dX3_isAheadOfCross_16 ?_
    refine lv_iconst (v := 2) hx hb dX3_isAheadOfCross_17 (by decide) ?_
    refine lv_icmp_ne (tgt := 25) hx hb dX3_isAheadOfCross_18 (by decide) (fun c6 => ?_) (fun c6 => ?_)
    · replace h := gx_f c6 h
      refine lv_iconst (v := 0) hx hb dX3_isAheadOfCross_25 (by decide) ?_
      cases h
      exact cc_ret hx hb hr rfl hQ hK hP hD hS rfl dX3_isAheadOfCross_26 hlocks
    · replace h := gx_t c6 h
      refine lv_iconst (v := 1) hx hb dX3_isAheadOfCross_21 (by decide) ?_
      refine lv_goto (tgt := 26) hx hb dX3_isAheadOfCross_22 (by decide) ?_
      cases h
      exact cc_ret hx hb hr rfl hQ hK hP hD hS rfl dX3_isAheadOfCross_26 hlocks

def rX3_areLawful : Room := { frames := 2, cells := 0, slots := 0, locals := 44 }
set_option maxHeartbeats 4000000 in
set_option maxRecDepth 100000 in
theorem k_X3_areLawful (l : Launch) (D : va_G) (cI cZ : ClassId) (ad : Nat → Nat) (u : GS) {r : Int32} (h : g_X3_areLawful u = some r) : MI l yX3_areLawful (wm yX3_areLawful cX3_areLawful 2 (some .boolean)) rX3_areLawful D [(cI, .int), (cZ, .boolean)] (wC cI cZ ad u) (wC cI cZ ad u) [.ref (ad 4)] r := by
  intro sz
  refine Met.ofW (cc := cX3_areLawful) (maxL := 2) (ret := (some .boolean)) (by decide) rfl ?_
  intro p e s m args below meth c s₁ B hml hv
  obtain ⟨rfl, hsz, hP, hK, hD0, hZ⟩ := hv
  have hx := B.exec
  have hb := B.bytes
  have hr := B.returns
  have hts : ∀ w ∈ Wall, w.before _ s = true := fun w hw => atoms_spec (ws := wm yX3_areLawful cX3_areLawful 2 (some .boolean)) B.pre w (List.mem_cons_of_mem _ hw)
  have hown : s.vm.findClass RX3 = some m.cls := findClass_of_methodNamed B.named
  have hlocks := B.notSynchronized
  subst hsz
  have hD := hD0.self (sz := s.heap.size)
  generalize hAe : va_A (wC cI cZ ad u) s.heap.size = A at hD hZ ⊢
  have hA : ∀ q : Nat, s.heap.size ≤ q → A q := fun q h => by rw [← hAe]; exact Or.inr h
  have hS : va_S A s.heap s.heap [] := va_S.rf
  have hf18 := hts _ mw_127
  have hl := lv_entry ([.ref (ad 4)]) (n := 2) (Nat.le_of_ble_eq_true rfl)
  rw [lg_entry_eq]
  generalize (lg_sl ([.ref (ad 4)]) ++ List.replicate (2 - (lg_sl ([.ref (ad 4)])).length) Slot.unset).toArray = ls at hl ⊢
  replace hl : lv_has ls 2 [(0, .ref (ad 4))] := hl
  refine w_gen (fun Q hQ => ?_)
  refine lv_iconst (v := 0) hx hb dX3_areLawful_0 (by decide) ?_
  refine lv_istore_n (lv' := [(1, .int (0 : Int32)), (0, .ref (ad 4))]) hx hb dX3_areLawful_1 rfl hl (by decide) rfl (fun ls hl => ?_)
  have hL2 : ∀ (k : Unit → Option (Int32)) (hk : ∀ (H : Heap) (locs : List Loc) (ls : Array Slot), k () = some r → va_P D vwCl (wC cI cZ ad u) H → va_D A (wC cI cZ ad u) → va_S A s.heap H locs → lv_has ls 2 [] → W p l e rX3_areLawful s m ([.ref (ad 4)] : List Value).toArray below meth c H locs 0 0 Q (F0 m 36 ls [])) (n : Nat) (x1_2 : Int32) (H : Heap) (locs : List Loc) (ls : Array Slot), lp_X3_areLawful_2 u k n x1_2 = some r → va_P D vwCl (wC cI cZ ad u) H → va_D A (wC cI cZ ad u) → va_S A s.heap H locs → lv_has ls 2 [(0, .ref (ad 4)), (1, .int x1_2)] → W p l e rX3_areLawful s m ([.ref (ad 4)] : List Value).toArray below meth c H locs 0 0 Q (F0 m 2 ls []) := by
    intro k hk n
    induction n with
    | zero =>
      intro x1_2 H locs ls h
      rw [lp_X3_areLawful_2] at h
      cases h
    | succ n ih =>
      intro x1_2 H locs ls h hP hD hS hl
      rw [lp_X3_areLawful_2] at h
      refine lv_iload_n hx hb dX3_areLawful_2 rfl (lv_at hl 1 rfl) ?_
      refine lv_bipush (v := 48) hx hb dX3_areLawful_3 (by decide) ?_
      refine lv_icmp_ge (tgt := 36) hx hb dX3_areLawful_5 (by decide) (fun c1 => ?_) (fun c1 => ?_)
      · replace h := gx_t c1 h
        exact hk _ _ _ h hP hD hS (lv_sub hl [] rfl)
      · replace h := gx_f c1 h
        refine lv_aload_n hx hb dX3_areLawful_8 rfl (lv_at hl 0 rfl) ?_
        refine va_get (D := D) (ci := 3) (v := .ref (ad 20)) (C := RX3) (T := TX3) (N := 3) hx hb hts iX3 hown hK hP 4 rfl rfl 2 (by decide) hf18 (fun _ h9 => h9) rfl dX3_areLawful_9 ?_
        refine lv_iload_n hx hb dX3_areLawful_12 rfl (lv_at hl 1 rfl) ?_
        obtain ⟨b2, h⟩ := gx_in h
        refine va_iald (D := D) hx hb hK hP 20 0 rfl rfl b2 dX3_areLawful_13 ?_
        obtain ⟨j30_3, ej30_3, h⟩ := gx_let h
        have hj30_3 : ∀ (H : Heap) (locs : List Loc) (ls : Array Slot), j30_3 () = some r → va_P D vwCl (wC cI cZ ad u) H → va_D A (wC cI cZ ad u) → va_S A s.heap H locs → lv_has ls 2 [(0, .ref (ad 4)), (1, .int x1_2)] → W p l e rX3_areLawful s m ([.ref (ad 4)] : List Value).toArray below meth c H locs 0 0 Q (F0 m 30 ls []) := by
          intro  H locs ls h hP hD hS hl
          subst ej30_3
          obtain ⟨v4, ev4, h⟩ := gx_let h
          refine lv_iinc (v := v4) (lv' := [(1, .int v4), (0, .ref (ad 4))]) hx hb dX3_areLawful_30 hl (k := 1) rfl (by rw [← ev4]; rfl) (by decide) rfl (fun ls hl => ?_)
          refine lv_goto (tgt := 2) hx hb dX3_areLawful_33 (by decide) ?_
          exact ih v4 _ _ _ h hP hD hS (lv_sub hl [1, 0] rfl)
        refine lv_if_ne (tgt := 30) hx hb dX3_areLawful_14 (by decide) (fun c5 => ?_) (fun c5 => ?_)
        · replace h := gx_f c5 h
          exact hj30_3 _ _ _ h hP hD hS (lv_sub hl [0, 1] rfl)
        · replace h := gx_t c5 h
          refine lv_iload_n hx hb dX3_areLawful_17 rfl (lv_at hl 1 rfl) ?_
          refine lv_aload_n hx hb dX3_areLawful_18 rfl (lv_at hl 0 rfl) ?_
          refine va_get (D := D) (ci := 3) (v := .ref (ad 20)) (C := RX3) (T := TX3) (N := 3) hx hb hts iX3 hown hK hP 4 rfl rfl 2 (by decide) hf18 (fun _ h9 => h9) rfl dX3_areLawful_19 ?_
          obtain ⟨y6, hc7, h⟩ := gx_bind h
          refine cc_iS (As := [.int x1_2, .ref (ad 20)]) (rest := []) ⟨hx, hb, hml, hown, hts⟩ (k_X3_isAheadOfCross_s l D cI cZ ad u x1_2 hc7) (va_cwS 2 hts (gwS mw_259 mw_260 mw_23 mw_261) rfl rfl rfl (by decide +kernel) ⟨Nat.le_of_ble_eq_true rfl, Nat.le_of_ble_eq_true rfl⟩) hK hP hD hS hA hZ rfl hl.1 rfl (Nat.le_of_ble_eq_true rfl) dX3_areLawful_22 ⟨Nat.zero_le _, Nat.zero_le _⟩ (fun H locs hP hD hS => ?_)
          refine lv_if_eq (tgt := 30) hx hb dX3_areLawful_25 (by decide) (fun c8 => ?_) (fun c8 => ?_)
          · replace h := gx_t c8 h
            exact hj30_3 _ _ _ h hP hD hS (lv_sub hl [0, 1] rfl)
          · replace h := gx_f c8 h
            refine lv_iconst (v := 0) hx hb dX3_areLawful_28 (by decide) ?_
            cases h
            exact cc_ret hx hb hr rfl hQ hK hP hD hS rfl dX3_areLawful_29 hlocks
  refine hL2 _ (fun H locs ls h hP hD hS hl => ?_) FU (0 : Int32) _ _ _ h hP hD hS (lv_sub hl [1, 0] rfl)
  refine lv_iconst (v := 1) hx hb dX3_areLawful_36 (by decide) ?_
  cases h
  exact cc_ret hx hb hr rfl hQ hK hP hD hS rfl dX3_areLawful_37 hlocks

def rX9_isLawful : Room := { frames := 5, cells := 0, slots := 0, locals := 114 }
set_option maxHeartbeats 4000000 in
set_option maxRecDepth 100000 in
theorem k_X9_isLawful (l : Launch) (D : va_G) (cI cZ : ClassId) (ad : Nat → Nat) (u : GS) {r : Int32} {w' : GS} (h : g_X9_isLawful u = some (r, w')) : MI l yX9_isLawful (wm yX9_isLawful cX9_isLawful 1 (some .boolean)) rX9_isLawful D [(cI, .int), (cZ, .boolean)] (wC cI cZ ad u) (wC cI cZ ad w') [.ref (ad 0)] r := by
  intro sz
  refine Met.ofW (cc := cX9_isLawful) (maxL := 1) (ret := (some .boolean)) (by decide) rfl ?_
  intro p e s m args below meth c s₁ B hml hv
  obtain ⟨rfl, hsz, hP, hK, hD0, hZ⟩ := hv
  have hx := B.exec
  have hb := B.bytes
  have hr := B.returns
  have hts : ∀ w ∈ Wall, w.before _ s = true := fun w hw => atoms_spec (ws := wm yX9_isLawful cX9_isLawful 1 (some .boolean)) B.pre w (List.mem_cons_of_mem _ hw)
  have hown : s.vm.findClass RX9 = some m.cls := findClass_of_methodNamed B.named
  have hlocks := B.notSynchronized
  subst hsz
  have hD := hD0.self (sz := s.heap.size)
  generalize hAe : va_A (wC cI cZ ad u) s.heap.size = A at hD hZ ⊢
  have hA : ∀ q : Nat, s.heap.size ≤ q → A q := fun q h => by rw [← hAe]; exact Or.inr h
  have hS : va_S A s.heap s.heap [] := va_S.rf
  have hf30 := hts _ mw_277
  have hf37 := hts _ mw_278
  have hl := lv_entry ([.ref (ad 0)]) (n := 1) (Nat.le_of_ble_eq_true rfl)
  rw [lg_entry_eq]
  generalize (lg_sl ([.ref (ad 0)]) ++ List.replicate (1 - (lg_sl ([.ref (ad 0)])).length) Slot.unset).toArray = ls at hl ⊢
  replace hl : lv_has ls 1 [(0, .ref (ad 0))] := hl
  refine w_gen (fun Q hQ => ?_)
  refine lv_aload_n hx hb dX9_isLawful_0 rfl (lv_at hl 0 rfl) ?_
  obtain ⟨y1, hc2, h⟩ := gx_bind h
  refine cc_vV (As := []) (rest := []) ⟨hx, hb, hml, hown, hts⟩ (k_X9_setLaneSigns l D cI cZ ad u hc2) (cwV 0 hts (gwV mw_387 mw_389 mw_2 mw_19 mw_390) rfl rfl rfl (by decide +kernel) ⟨Nat.le_of_ble_eq_true rfl, Nat.le_of_ble_eq_true rfl⟩) hK hP hD hS hA hZ (ci := 9) (q0 := 0) rfl rfl rfl hl.1 rfl (Nat.le_of_ble_eq_true rfl) dX9_isLawful_1 ⟨Nat.zero_le _, Nat.zero_le _⟩ (fun H locs hP hD hS => ?_)
  refine lv_aload_n hx hb dX9_isLawful_4 rfl (lv_at hl 0 rfl) ?_
  refine va_get (D := D) (ci := 9) (v := .ref (ad 3)) (C := RX9) (T := TX9) (N := 10) hx hb hts iX9 hown hK hP 0 rfl rfl 3 (by decide) hf30 (fun _ h9 => h9) rfl dX9_isLawful_5 ?_
  obtain ⟨y3, hc4, h⟩ := gx_bind h
  refine cc_iV (As := []) (rest := []) ⟨hx, hb, hml, hown, hts⟩ (k_X7_areLawful l D cI cZ ad y1 hc4) (cwV 0 hts (gwV mw_396 mw_397 mw_398 mw_22 mw_399) rfl rfl rfl (by decide +kernel) ⟨Nat.le_of_ble_eq_true rfl, Nat.le_of_ble_eq_true rfl⟩) hK hP hD hS hA hZ (ci := 7) (q0 := 3) rfl rfl rfl hl.1 rfl (Nat.le_of_ble_eq_true rfl) dX9_isLawful_8 ⟨Nat.zero_le _, Nat.zero_le _⟩ (fun H locs hP hD hS => ?_)
  refine lv_if_eq (tgt := 28) hx hb dX9_isLawful_11 (by decide) (fun c5 => ?_) (fun c5 => ?_)
  · replace h := gx_t c5 h
    refine lv_iconst (v := 0) hx hb dX9_isLawful_28 (by decide) ?_
    cases h
    exact cc_ret hx hb hr rfl hQ hK hP hD hS rfl dX9_isLawful_29 hlocks
  · replace h := gx_f c5 h
    refine lv_aload_n hx hb dX9_isLawful_14 rfl (lv_at hl 0 rfl) ?_
    refine va_get (D := D) (ci := 9) (v := .ref (ad 4)) (C := RX9) (T := TX9) (N := 10) hx hb hts iX9 hown hK hP 0 rfl rfl 4 (by decide) hf37 (fun _ h9 => h9) rfl dX9_isLawful_15 ?_
    obtain ⟨y6, hc7, h⟩ := gx_bind h
    refine cc_iV (As := []) (rest := []) ⟨hx, hb, hml, hown, hts⟩ (k_X3_areLawful l D cI cZ ad y1 hc7) (cwV 0 hts (gwV mw_400 mw_401 mw_402 mw_23 mw_403) rfl rfl rfl (by decide +kernel) ⟨Nat.le_of_ble_eq_true rfl, Nat.le_of_ble_eq_true rfl⟩) hK hP hD hS hA hZ (ci := 3) (q0 := 4) rfl rfl rfl hl.1 rfl (Nat.le_of_ble_eq_true rfl) dX9_isLawful_18 ⟨Nat.zero_le _, Nat.zero_le _⟩ (fun H locs hP hD hS => ?_)
    refine lv_if_eq (tgt := 28) hx hb dX9_isLawful_21 (by decide) (fun c8 => ?_) (fun c8 => ?_)
    · replace h := gx_t c8 h
      refine lv_iconst (v := 0) hx hb dX9_isLawful_28 (by decide) ?_
      cases h
      exact cc_ret hx hb hr rfl hQ hK hP hD hS rfl dX9_isLawful_29 hlocks
    · replace h := gx_f c8 h
      refine lv_iconst (v := 1) hx hb dX9_isLawful_24 (by decide) ?_
      refine lv_goto (tgt := 29) hx hb dX9_isLawful_25 (by decide) ?_
      cases h
      exact cc_ret hx hb hr rfl hQ hK hP hD hS rfl dX9_isLawful_29 hlocks

def rX8_mostIn : Room := { frames := 0, cells := 0, slots := 0, locals := 0 }
set_option maxHeartbeats 4000000 in
set_option maxRecDepth 100000 in
theorem k_X8_mostIn (l : Launch) (D : va_G) (cI cZ : ClassId) (ad : Nat → Nat) (u : GS) (p0 : Int32) {r : Int32} (h : g_X8_mostIn u p0 = some r) : MI l yX8_mostIn (wm yX8_mostIn cX8_mostIn 5 (some .int)) rX8_mostIn D [(cI, .int), (cZ, .boolean)] (wC cI cZ ad u) (wC cI cZ ad u) [.ref (ad 1), .int p0] r := by
  intro sz
  refine Met.ofW (cc := cX8_mostIn) (maxL := 5) (ret := (some .int)) (by decide) rfl ?_
  intro p e s m args below meth c s₁ B hml hv
  obtain ⟨rfl, hsz, hP, hK, hD0, hZ⟩ := hv
  have hx := B.exec
  have hb := B.bytes
  have hr := B.returns
  have hts : ∀ w ∈ Wall, w.before _ s = true := fun w hw => atoms_spec (ws := wm yX8_mostIn cX8_mostIn 5 (some .int)) B.pre w (List.mem_cons_of_mem _ hw)
  have hown : s.vm.findClass RX8 = some m.cls := findClass_of_methodNamed B.named
  have hlocks := B.notSynchronized
  subst hsz
  have hD := hD0.self (sz := s.heap.size)
  generalize hAe : va_A (wC cI cZ ad u) s.heap.size = A at hD hZ ⊢
  have hA : ∀ q : Nat, s.heap.size ≤ q → A q := fun q h => by rw [← hAe]; exact Or.inr h
  have hS : va_S A s.heap s.heap [] := va_S.rf
  have hf9 := hts _ mw_50
  have hl := lv_entry ([.ref (ad 1), .int p0]) (n := 5) (Nat.le_of_ble_eq_true rfl)
  rw [lg_entry_eq]
  generalize (lg_sl ([.ref (ad 1), .int p0]) ++ List.replicate (5 - (lg_sl ([.ref (ad 1), .int p0])).length) Slot.unset).toArray = ls at hl ⊢
  replace hl : lv_has ls 5 [(0, .ref (ad 1)), (1, .int p0)] := hl
  refine w_gen (fun Q hQ => ?_)
  refine lv_iload_n hx hb dX8_mostIn_0 rfl (lv_at hl 1 rfl) ?_
  refine lv_if_lt (tgt := 10) hx hb dX8_mostIn_1 (by decide) (fun c1 => ?_) (fun c1 => ?_)
  · replace h := gx_t c1 h
    refine lv_iconst (v := 0) hx hb dX8_mostIn_10 (by decide) ?_
    cases h
    exact cc_ret hx hb hr rfl hQ hK hP hD hS rfl dX8_mostIn_11 hlocks
  · replace h := gx_f c1 h
    refine lv_iload_n hx hb dX8_mostIn_4 rfl (lv_at hl 1 rfl) ?_
    refine lv_bipush (v := 12) hx hb dX8_mostIn_5 (by decide) ?_
    refine lv_icmp_lt (tgt := 12) hx hb dX8_mostIn_7 (by decide) (fun c2 => ?_) (fun c2 => ?_)
    · replace h := gx_t c2 h
      refine lv_iconst (v := 0) hx hb dX8_mostIn_12 (by decide) ?_
      refine lv_istore_n (lv' := [(2, .int (0 : Int32)), (0, .ref (ad 1)), (1, .int p0)]) hx hb dX8_mostIn_13 rfl hl (by decide) rfl (fun ls hl => ?_)
      refine lv_iconst (v := 0) hx hb dX8_mostIn_14 (by decide) ?_
      refine lv_istore_n (lv' := [(3, .int (0 : Int32)), (2, .int (0 : Int32)), (0, .ref (ad 1)), (1, .int p0)]) hx hb dX8_mostIn_15 rfl hl (by decide) rfl (fun ls hl => ?_)
      have hL16 : ∀ (k : Int32 → Option (Int32)) (hk : ∀ (x2_16 : Int32) (H : Heap) (locs : List Loc) (ls : Array Slot), k x2_16 = some r → va_P D vwCl (wC cI cZ ad u) H → va_D A (wC cI cZ ad u) → va_S A s.heap H locs → lv_has ls 5 [(2, .int x2_16)] → W p l e rX8_mostIn s m ([.ref (ad 1), .int p0] : List Value).toArray below meth c H locs 0 0 Q (F0 m 52 ls [])) (n : Nat) (x2_16 : Int32) (x3_16 : Int32) (H : Heap) (locs : List Loc) (ls : Array Slot), lp_X8_mostIn_16 u p0 k n x2_16 x3_16 = some r → va_P D vwCl (wC cI cZ ad u) H → va_D A (wC cI cZ ad u) → va_S A s.heap H locs → lv_has ls 5 [(0, .ref (ad 1)), (1, .int p0), (2, .int x2_16), (3, .int x3_16)] → W p l e rX8_mostIn s m ([.ref (ad 1), .int p0] : List Value).toArray below meth c H locs 0 0 Q (F0 m 16 ls []) := by
        intro k hk n
        induction n with
        | zero =>
          intro x2_16 x3_16 H locs ls h
          rw [lp_X8_mostIn_16] at h
          cases h
        | succ n ih =>
          intro x2_16 x3_16 H locs ls h hP hD hS hl
          rw [lp_X8_mostIn_16] at h
          refine lv_iload_n hx hb dX8_mostIn_16 rfl (lv_at hl 3 rfl) ?_
          refine lv_iconst (v := 4) hx hb dX8_mostIn_17 (by decide) ?_
          refine lv_icmp_ge (tgt := 52) hx hb dX8_mostIn_18 (by decide) (fun c3 => ?_) (fun c3 => ?_)
          · replace h := gx_t c3 h
            exact hk x2_16 _ _ _ h hP hD hS (lv_sub hl [2] rfl)
          · replace h := gx_f c3 h
            refine lv_aload_n hx hb dX8_mostIn_21 rfl (lv_at hl 0 rfl) ?_
            refine va_get (D := D) (ci := 8) (v := .ref (ad 10)) (C := RX8) (T := TX8) (N := 7) hx hb hts iX8 hown hK hP 1 rfl rfl 0 (by decide) hf9 (fun _ h9 => h9) rfl dX8_mostIn_22 ?_
            refine lv_iload_n hx hb dX8_mostIn_25 rfl (lv_at hl 1 rfl) ?_
            refine lv_iconst (v := 4) hx hb dX8_mostIn_26 (by decide) ?_
            refine lv_imul hx hb dX8_mostIn_27 ?_
            refine lv_iload_n hx hb dX8_mostIn_28 rfl (lv_at hl 3 rfl) ?_
            refine lv_iadd hx hb dX8_mostIn_29 ?_
            obtain ⟨b4, h⟩ := gx_in h
            refine va_iald (D := D) hx hb hK hP 10 0 rfl rfl b4 dX8_mostIn_30 ?_
            obtain ⟨v5, ev5, h⟩ := gx_let h
            refine lv_topn ev5 ?_
            refine lv_istore (lv' := [(4, .int v5), (0, .ref (ad 1)), (1, .int p0), (2, .int x2_16), (3, .int x3_16)]) hx hb dX8_mostIn_31 hl (by decide) rfl (fun ls hl => ?_)
            refine lv_iload hx hb dX8_mostIn_33 (lv_at hl 0 rfl) ?_
            refine lv_iload_n hx hb dX8_mostIn_35 rfl (lv_at hl 3 rfl) ?_
            obtain ⟨j45_6, ej45_6, h⟩ := gx_let h
            have hj45_6 : ∀ (z0_45 : Int32) (H : Heap) (locs : List Loc) (ls : Array Slot), j45_6 z0_45 = some r → va_P D vwCl (wC cI cZ ad u) H → va_D A (wC cI cZ ad u) → va_S A s.heap H locs → lv_has ls 5 [(0, .ref (ad 1)), (1, .int p0), (3, .int x3_16)] → W p l e rX8_mostIn s m ([.ref (ad 1), .int p0] : List Value).toArray below meth c H locs 0 0 Q (F0 m 45 ls [.int z0_45]) := by
              intro z0_45 H locs ls h hP hD hS hl
              subst ej45_6
              refine lv_istore_n (lv' := [(2, .int z0_45), (0, .ref (ad 1)), (1, .int p0), (3, .int x3_16)]) hx hb dX8_mostIn_45 rfl hl (by decide) rfl (fun ls hl => ?_)
              obtain ⟨v7, ev7, h⟩ := gx_let h
              refine lv_iinc (v := v7) (lv' := [(3, .int v7), (2, .int z0_45), (0, .ref (ad 1)), (1, .int p0)]) hx hb dX8_mostIn_46 hl (k := 3) rfl (by rw [← ev7]; rfl) (by decide) rfl (fun ls hl => ?_)
              refine lv_goto (tgt := 16) hx hb dX8_mostIn_49 (by decide) ?_
              exact ih z0_45 v7 _ _ _ h hP hD hS (lv_sub hl [2, 3, 1, 0] rfl)
            refine lv_icmp_le (tgt := 44) hx hb dX8_mostIn_36 (by decide) (fun c8 => ?_) (fun c8 => ?_)
            · replace h := gx_t c8 h
              refine lv_iload_n hx hb dX8_mostIn_44 rfl (lv_at hl 3 rfl) ?_
              exact hj45_6 x2_16 _ _ _ h hP hD hS (lv_sub hl [1, 2, 4] rfl)
            · replace h := gx_f c8 h
              refine lv_iload hx hb dX8_mostIn_39 (lv_at hl 0 rfl) ?_
              refine lv_goto (tgt := 45) hx hb dX8_mostIn_41 (by decide) ?_
              exact hj45_6 v5 _ _ _ h hP hD hS (lv_sub hl [1, 2, 4] rfl)
      refine hL16 _ (fun x2_16 H locs ls h hP hD hS hl => ?_) FU (0 : Int32) (0 : Int32) _ _ _ h hP hD hS (lv_sub hl [2, 3, 1, 0] rfl)
      refine lv_iload_n hx hb dX8_mostIn_52 rfl (lv_at hl 0 rfl) ?_
      cases h
      exact cc_ret hx hb hr rfl hQ hK hP hD hS rfl dX8_mostIn_53 hlocks
    · replace h := gx_f c2 h
      refine lv_iconst (v := 0) hx hb dX8_mostIn_10 (by decide) ?_
      cases h
      exact cc_ret hx hb hr rfl hQ hK hP hD hS rfl dX8_mostIn_11 hlocks

def rX8_speedAt : Room := { frames := 1, cells := 0, slots := 0, locals := 24 }
set_option maxHeartbeats 4000000 in
set_option maxRecDepth 100000 in
theorem k_X8_speedAt (l : Launch) (D : va_G) (cI cZ : ClassId) (ad : Nat → Nat) (u : GS) (p0 : Int32) {r : Int32} (h : g_X8_speedAt u p0 = some r) : MI l yX8_speedAt (wm yX8_speedAt cX8_speedAt 2 (some .int)) rX8_speedAt D [(cI, .int), (cZ, .boolean)] (wC cI cZ ad u) (wC cI cZ ad u) [.ref (ad 1), .int p0] r := by
  intro sz
  refine Met.ofW (cc := cX8_speedAt) (maxL := 2) (ret := (some .int)) (by decide) rfl ?_
  intro p e s m args below meth c s₁ B hml hv
  obtain ⟨rfl, hsz, hP, hK, hD0, hZ⟩ := hv
  have hx := B.exec
  have hb := B.bytes
  have hr := B.returns
  have hts : ∀ w ∈ Wall, w.before _ s = true := fun w hw => atoms_spec (ws := wm yX8_speedAt cX8_speedAt 2 (some .int)) B.pre w (List.mem_cons_of_mem _ hw)
  have hown : s.vm.findClass RX8 = some m.cls := findClass_of_methodNamed B.named
  have hlocks := B.notSynchronized
  subst hsz
  have hD := hD0.self (sz := s.heap.size)
  generalize hAe : va_A (wC cI cZ ad u) s.heap.size = A at hD hZ ⊢
  have hA : ∀ q : Nat, s.heap.size ≤ q → A q := fun q h => by rw [← hAe]; exact Or.inr h
  have hS : va_S A s.heap s.heap [] := va_S.rf
  have hl := lv_entry ([.ref (ad 1), .int p0]) (n := 2) (Nat.le_of_ble_eq_true rfl)
  rw [lg_entry_eq]
  generalize (lg_sl ([.ref (ad 1), .int p0]) ++ List.replicate (2 - (lg_sl ([.ref (ad 1), .int p0])).length) Slot.unset).toArray = ls at hl ⊢
  replace hl : lv_has ls 2 [(0, .ref (ad 1)), (1, .int p0)] := hl
  refine w_gen (fun Q hQ => ?_)
  refine lv_bipush (v := 120) hx hb dX8_speedAt_0 (by decide) ?_
  refine lv_iconst (v := 5) hx hb dX8_speedAt_2 (by decide) ?_
  refine lv_aload_n hx hb dX8_speedAt_3 rfl (lv_at hl 0 rfl) ?_
  refine lv_iload_n hx hb dX8_speedAt_4 rfl (lv_at hl 1 rfl) ?_
  obtain ⟨y1, hc2, h⟩ := gx_bind h
  refine cc_iV (As := [.int p0]) (rest := [.int (5 : Int32), .int (120 : Int32)]) ⟨hx, hb, hml, hown, hts⟩ (k_X8_mostIn l D cI cZ ad u p0 hc2) (cwV 1 hts (gwV mw_417 mw_418 mw_419 mw_20 mw_420) rfl rfl rfl (by decide +kernel) ⟨Nat.le_of_ble_eq_true rfl, Nat.le_of_ble_eq_true rfl⟩) hK hP hD hS hA hZ (ci := 8) (q0 := 1) rfl rfl rfl hl.1 rfl (Nat.le_of_ble_eq_true rfl) dX8_speedAt_5 ⟨Nat.zero_le _, Nat.zero_le _⟩ (fun H locs hP hD hS => ?_)
  refine lv_imul hx hb dX8_speedAt_8 ?_
  refine lv_isub hx hb dX8_speedAt_9 ?_
  cases h
  exact cc_ret hx hb hr rfl hQ hK hP hD hS rfl dX8_speedAt_10 hlocks

def rX1_guessAt : Room := { frames := 2, cells := 0, slots := 0, locals := 45 }
set_option maxHeartbeats 4000000 in
set_option maxRecDepth 100000 in
theorem k_X1_guessAt (l : Launch) (D : va_G) (cI cZ : ClassId) (ad : Nat → Nat) (u : GS) (p0 : Int32) {r : Int32} (h : g_X1_guessAt u p0 = some r) : MI l yX1_guessAt (wm yX1_guessAt cX1_guessAt 6 (some .int)) rX1_guessAt D [(cI, .int), (cZ, .boolean)] (wC cI cZ ad u) (wC cI cZ ad u) [.ref (ad 2), .int p0, .ref (ad 1)] r := by
  intro sz
  refine Met.ofW (cc := cX1_guessAt) (maxL := 6) (ret := (some .int)) (by decide) rfl ?_
  intro p e s m args below meth c s₁ B hml hv
  obtain ⟨rfl, hsz, hP, hK, hD0, hZ⟩ := hv
  have hx := B.exec
  have hb := B.bytes
  have hr := B.returns
  have hts : ∀ w ∈ Wall, w.before _ s = true := fun w hw => atoms_spec (ws := wm yX1_guessAt cX1_guessAt 6 (some .int)) B.pre w (List.mem_cons_of_mem _ hw)
  have hown : s.vm.findClass RX1 = some m.cls := findClass_of_methodNamed B.named
  have hlocks := B.notSynchronized
  subst hsz
  have hD := hD0.self (sz := s.heap.size)
  generalize hAe : va_A (wC cI cZ ad u) s.heap.size = A at hD hZ ⊢
  have hA : ∀ q : Nat, s.heap.size ≤ q → A q := fun q h => by rw [← hAe]; exact Or.inr h
  have hS : va_S A s.heap s.heap [] := va_S.rf
  have hf9 := hts _ mw_87
  have hl := lv_entry ([.ref (ad 2), .int p0, .ref (ad 1)]) (n := 6) (Nat.le_of_ble_eq_true rfl)
  rw [lg_entry_eq]
  generalize (lg_sl ([.ref (ad 2), .int p0, .ref (ad 1)]) ++ List.replicate (6 - (lg_sl ([.ref (ad 2), .int p0, .ref (ad 1)])).length) Slot.unset).toArray = ls at hl ⊢
  replace hl : lv_has ls 6 [(0, .ref (ad 2)), (1, .int p0), (2, .ref (ad 1))] := hl
  refine w_gen (fun Q hQ => ?_)
  refine lv_iconst (v := 0) hx hb dX1_guessAt_0 (by decide) ?_
  refine lv_istore_n (lv' := [(3, .int (0 : Int32)), (0, .ref (ad 2)), (1, .int p0), (2, .ref (ad 1))]) hx hb dX1_guessAt_1 rfl hl (by decide) rfl (fun ls hl => ?_)
  refine lv_iconst (v := 0) hx hb dX1_guessAt_2 (by decide) ?_
  refine lv_istore (lv' := [(4, .int (0 : Int32)), (3, .int (0 : Int32)), (0, .ref (ad 2)), (1, .int p0), (2, .ref (ad 1))]) hx hb dX1_guessAt_3 hl (by decide) rfl (fun ls hl => ?_)
  refine lv_iconst (v := 0) hx hb dX1_guessAt_5 (by decide) ?_
  refine lv_istore (lv' := [(5, .int (0 : Int32)), (4, .int (0 : Int32)), (3, .int (0 : Int32)), (0, .ref (ad 2)), (1, .int p0), (2, .ref (ad 1))]) hx hb dX1_guessAt_6 hl (by decide) rfl (fun ls hl => ?_)
  have hL8 : ∀ (k : Int32 → Int32 → Option (Int32)) (hk : ∀ (x3_8 : Int32) (x4_8 : Int32) (H : Heap) (locs : List Loc) (ls : Array Slot), k x3_8 x4_8 = some r → va_P D vwCl (wC cI cZ ad u) H → va_D A (wC cI cZ ad u) → va_S A s.heap H locs → lv_has ls 6 [(3, .int x3_8), (4, .int x4_8)] → W p l e rX1_guessAt s m ([.ref (ad 2), .int p0, .ref (ad 1)] : List Value).toArray below meth c H locs 0 0 Q (F0 m 59 ls [])) (n : Nat) (x3_8 : Int32) (x4_8 : Int32) (x5_8 : Int32) (H : Heap) (locs : List Loc) (ls : Array Slot), lp_X1_guessAt_8 u p0 k n x3_8 x4_8 x5_8 = some r → va_P D vwCl (wC cI cZ ad u) H → va_D A (wC cI cZ ad u) → va_S A s.heap H locs → lv_has ls 6 [(0, .ref (ad 2)), (1, .int p0), (2, .ref (ad 1)), (3, .int x3_8), (4, .int x4_8), (5, .int x5_8)] → W p l e rX1_guessAt s m ([.ref (ad 2), .int p0, .ref (ad 1)] : List Value).toArray below meth c H locs 0 0 Q (F0 m 8 ls []) := by
    intro k hk n
    induction n with
    | zero =>
      intro x3_8 x4_8 x5_8 H locs ls h
      rw [lp_X1_guessAt_8] at h
      cases h
    | succ n ih =>
      intro x3_8 x4_8 x5_8 H locs ls h hP hD hS hl
      rw [lp_X1_guessAt_8] at h
      refine lv_iload hx hb dX1_guessAt_8 (lv_at hl 5 rfl) ?_
      refine lv_bipush (v := 12) hx hb dX1_guessAt_10 (by decide) ?_
      refine lv_icmp_ge (tgt := 59) hx hb dX1_guessAt_12 (by decide) (fun c1 => ?_) (fun c1 => ?_)
      · replace h := gx_t c1 h
        exact hk x3_8 x4_8 _ _ _ h hP hD hS (lv_sub hl [3, 4] rfl)
      · replace h := gx_f c1 h
        refine lv_iload hx hb dX1_guessAt_15 (lv_at hl 5 rfl) ?_
        refine lv_iload_n hx hb dX1_guessAt_17 rfl (lv_at hl 1 rfl) ?_
        refine lv_iconst (v := 1) hx hb dX1_guessAt_18 (by decide) ?_
        refine lv_isub hx hb dX1_guessAt_19 ?_
        obtain ⟨j53_2, ej53_2, h⟩ := gx_let h
        have hj53_2 : ∀ (x3_53 : Int32) (x4_53 : Int32) (H : Heap) (locs : List Loc) (ls : Array Slot), j53_2 x3_53 x4_53 = some r → va_P D vwCl (wC cI cZ ad u) H → va_D A (wC cI cZ ad u) → va_S A s.heap H locs → lv_has ls 6 [(0, .ref (ad 2)), (1, .int p0), (2, .ref (ad 1)), (3, .int x3_53), (4, .int x4_53), (5, .int x5_8)] → W p l e rX1_guessAt s m ([.ref (ad 2), .int p0, .ref (ad 1)] : List Value).toArray below meth c H locs 0 0 Q (F0 m 53 ls []) := by
          intro x3_53 x4_53 H locs ls h hP hD hS hl
          subst ej53_2
          obtain ⟨v3, ev3, h⟩ := gx_let h
          refine lv_iinc (v := v3) (lv' := [(5, .int v3), (0, .ref (ad 2)), (1, .int p0), (2, .ref (ad 1)), (3, .int x3_53), (4, .int x4_53)]) hx hb dX1_guessAt_53 hl (k := 5) rfl (by rw [← ev3]; rfl) (by decide) rfl (fun ls hl => ?_)
          refine lv_goto (tgt := 8) hx hb dX1_guessAt_56 (by decide) ?_
          exact ih x3_53 x4_53 v3 _ _ _ h hP hD hS (lv_sub hl [1, 2, 3, 4, 5, 0] rfl)
        obtain ⟨j31_4, ej31_4, h⟩ := gx_let h
        have hj31_4 : ∀ (H : Heap) (locs : List Loc) (ls : Array Slot), j31_4 () = some r → va_P D vwCl (wC cI cZ ad u) H → va_D A (wC cI cZ ad u) → va_S A s.heap H locs → lv_has ls 6 [(0, .ref (ad 2)), (1, .int p0), (2, .ref (ad 1)), (3, .int x3_8), (4, .int x4_8), (5, .int x5_8)] → W p l e rX1_guessAt s m ([.ref (ad 2), .int p0, .ref (ad 1)] : List Value).toArray below meth c H locs 0 0 Q (F0 m 31 ls []) := by
          intro  H locs ls h hP hD hS hl
          subst ej31_4
          refine lv_aload_n hx hb dX1_guessAt_31 rfl (lv_at hl 0 rfl) ?_
          refine va_get (D := D) (ci := 1) (v := .ref (ad 13)) (C := RX1) (T := TX1) (N := 2) hx hb hts iX1 hown hK hP 2 rfl rfl 0 (by decide) hf9 (fun _ h9 => h9) rfl dX1_guessAt_32 ?_
          refine lv_iload hx hb dX1_guessAt_35 (lv_at hl 5 rfl) ?_
          obtain ⟨b5, h⟩ := gx_in h
          refine va_iald (D := D) hx hb hK hP 13 0 rfl rfl b5 dX1_guessAt_37 ?_
          refine lv_if_ne (tgt := 53) hx hb dX1_guessAt_38 (by decide) (fun c6 => ?_) (fun c6 => ?_)
          · replace h := gx_f c6 h
            exact hj53_2 x3_8 x4_8 _ _ _ h hP hD hS (lv_sub hl [0, 1, 2, 3, 4, 5] rfl)
          · replace h := gx_t c6 h
            refine lv_iload_n hx hb dX1_guessAt_41 rfl (lv_at hl 3 rfl) ?_
            refine lv_aload_n hx hb dX1_guessAt_42 rfl (lv_at hl 2 rfl) ?_
            refine lv_iload hx hb dX1_guessAt_43 (lv_at hl 5 rfl) ?_
            obtain ⟨y7, hc8, h⟩ := gx_bind h
            refine cc_iV (As := [.int x5_8]) (rest := [.int x3_8]) ⟨hx, hb, hml, hown, hts⟩ (k_X8_speedAt l D cI cZ ad u x5_8 hc8) (cwV 1 hts (gwV mw_413 mw_414 mw_415 mw_20 mw_416) rfl rfl rfl (by decide +kernel) ⟨Nat.le_of_ble_eq_true rfl, Nat.le_of_ble_eq_true rfl⟩) hK hP hD hS hA hZ (ci := 8) (q0 := 1) rfl rfl rfl hl.1 rfl (Nat.le_of_ble_eq_true rfl) dX1_guessAt_45 ⟨Nat.zero_le _, Nat.zero_le _⟩ (fun H locs hP hD hS => ?_)
            refine lv_iadd hx hb dX1_guessAt_48 ?_
            obtain ⟨v9, ev9, h⟩ := gx_let h
            refine lv_topn ev9 ?_
            refine lv_istore_n (lv' := [(3, .int v9), (0, .ref (ad 2)), (1, .int p0), (2, .ref (ad 1)), (4, .int x4_8), (5, .int x5_8)]) hx hb dX1_guessAt_49 rfl hl (by decide) rfl (fun ls hl => ?_)
            obtain ⟨v10, ev10, h⟩ := gx_let h
            refine lv_iinc (v := v10) (lv' := [(4, .int v10), (3, .int v9), (0, .ref (ad 2)), (1, .int p0), (2, .ref (ad 1)), (5, .int x5_8)]) hx hb dX1_guessAt_50 hl (k := 4) rfl (by rw [← ev10]; rfl) (by decide) rfl (fun ls hl => ?_)
            exact hj53_2 v9 v10 _ _ _ h hP hD hS (lv_sub hl [2, 3, 4, 1, 0, 5] rfl)
        refine lv_icmp_eq (tgt := 31) hx hb dX1_guessAt_20 (by decide) (fun c11 => ?_) (fun c11 => ?_)
        · replace h := gx_t c11 h
          exact hj31_4 _ _ _ h hP hD hS (lv_sub hl [0, 1, 2, 3, 4, 5] rfl)
        · replace h := gx_f c11 h
          refine lv_iload hx hb dX1_guessAt_23 (lv_at hl 5 rfl) ?_
          refine lv_iload_n hx hb dX1_guessAt_25 rfl (lv_at hl 1 rfl) ?_
          refine lv_iconst (v := 1) hx hb dX1_guessAt_26 (by decide) ?_
          refine lv_iadd hx hb dX1_guessAt_27 ?_
          refine lv_icmp_ne (tgt := 53) hx hb dX1_guessAt_28 (by decide) (fun c12 => ?_) (fun c12 => ?_)
          · replace h := gx_f c12 h
            exact hj53_2 x3_8 x4_8 _ _ _ h hP hD hS (lv_sub hl [0, 1, 2, 3, 4, 5] rfl)
          · replace h := gx_t c12 h
            exact hj31_4 _ _ _ h hP hD hS (lv_sub hl [0, 1, 2, 3, 4, 5] rfl)
  refine hL8 _ (fun x3_8 x4_8 H locs ls h hP hD hS hl => ?_) FU (0 : Int32) (0 : Int32) (0 : Int32) _ _ _ h hP hD hS (lv_sub hl [3, 4, 5, 2, 1, 0] rfl)
  refine lv_iload hx hb dX1_guessAt_59 (lv_at hl 1 rfl) ?_
  refine lv_if_ne (tgt := 68) hx hb dX1_guessAt_61 (by decide) (fun c13 => ?_) (fun c13 => ?_)
  · replace h := gx_f c13 h
    refine lv_iload_n hx hb dX1_guessAt_68 rfl (lv_at hl 0 rfl) ?_
    refine lv_iload hx hb dX1_guessAt_69 (lv_at hl 1 rfl) ?_
    obtain ⟨n14, h⟩ := gx_nz h
    refine lv_idiv hx hb dX1_guessAt_71 n14 ?_
    cases h
    exact cc_ret hx hb hr rfl hQ hK hP hD hS rfl dX1_guessAt_72 hlocks
  · replace h := gx_t c13 h
    refine lv_iconst (v := (-1)) hx hb dX1_guessAt_64 (by decide) ?_
    refine lv_goto (tgt := 72) hx hb dX1_guessAt_65 (by decide) ?_
    cases h
    exact cc_ret hx hb hr rfl hQ hK hP hD hS rfl dX1_guessAt_72 hlocks

def rX1_beliefAt : Room := { frames := 3, cells := 0, slots := 0, locals := 70 }
set_option maxHeartbeats 4000000 in
set_option maxRecDepth 100000 in
theorem k_X1_beliefAt (l : Launch) (D : va_G) (cI cZ : ClassId) (ad : Nat → Nat) (u : GS) (p0 : Int32) {r : Int32} (h : g_X1_beliefAt u p0 = some r) : MI l yX1_beliefAt (wm yX1_beliefAt cX1_beliefAt 5 (some .int)) rX1_beliefAt D [(cI, .int), (cZ, .boolean)] (wC cI cZ ad u) (wC cI cZ ad u) [.ref (ad 2), .int p0, .ref (ad 1)] r := by
  intro sz
  refine Met.ofW (cc := cX1_beliefAt) (maxL := 5) (ret := (some .int)) (by decide) rfl ?_
  intro p e s m args below meth c s₁ B hml hv
  obtain ⟨rfl, hsz, hP, hK, hD0, hZ⟩ := hv
  have hx := B.exec
  have hb := B.bytes
  have hr := B.returns
  have hts : ∀ w ∈ Wall, w.before _ s = true := fun w hw => atoms_spec (ws := wm yX1_beliefAt cX1_beliefAt 5 (some .int)) B.pre w (List.mem_cons_of_mem _ hw)
  have hown : s.vm.findClass RX1 = some m.cls := findClass_of_methodNamed B.named
  have hlocks := B.notSynchronized
  subst hsz
  have hD := hD0.self (sz := s.heap.size)
  generalize hAe : va_A (wC cI cZ ad u) s.heap.size = A at hD hZ ⊢
  have hA : ∀ q : Nat, s.heap.size ≤ q → A q := fun q h => by rw [← hAe]; exact Or.inr h
  have hS : va_S A s.heap s.heap [] := va_S.rf
  have hf9 := hts _ mw_87
  have hf15 := hts _ mw_89
  have hl := lv_entry ([.ref (ad 2), .int p0, .ref (ad 1)]) (n := 5) (Nat.le_of_ble_eq_true rfl)
  rw [lg_entry_eq]
  generalize (lg_sl ([.ref (ad 2), .int p0, .ref (ad 1)]) ++ List.replicate (5 - (lg_sl ([.ref (ad 2), .int p0, .ref (ad 1)])).length) Slot.unset).toArray = ls at hl ⊢
  replace hl : lv_has ls 5 [(0, .ref (ad 2)), (1, .int p0), (2, .ref (ad 1))] := hl
  refine w_gen (fun Q hQ => ?_)
  refine lv_iload_n hx hb dX1_beliefAt_0 rfl (lv_at hl 1 rfl) ?_
  refine lv_iconst (v := 0) hx hb dX1_beliefAt_1 (by decide) ?_
  refine lv_bipush (v := 11) hx hb dX1_beliefAt_2 (by decide) ?_
  obtain ⟨y1, hc2, h⟩ := gx_bind h
  refine cc_iSN (As := [.int p0, .int (0 : Int32), .int (11 : Int32)]) (rest := []) ⟨hx, hb, hml, hown, hts⟩ (k_X9_isWithin l D cI cZ ad u p0 (0 : Int32) (11 : Int32) hc2) ⟨va_cnB 3 hts (gwM mw_244) rfl rfl rfl (hZ.1 ("RedcrossGantry$Detectors", 24, yX9_isWithin) (by decide +kernel)) (hts _ mw_19) (by decide +kernel) ⟨Nat.le_of_ble_eq_true rfl, Nat.le_of_ble_eq_true rfl⟩, hts _ mw_243, trivial⟩ hK hP hD hS hA hZ rfl hl.1 rfl (Nat.le_of_ble_eq_true rfl) dX1_beliefAt_4 ⟨Nat.zero_le _, Nat.zero_le _⟩ (fun H locs hP hD hS => ?_)
  refine lv_if_ne (tgt := 12) hx hb dX1_beliefAt_7 (by decide) (fun c3 => ?_) (fun c3 => ?_)
  · replace h := gx_f c3 h
    refine lv_aload_n hx hb dX1_beliefAt_12 rfl (lv_at hl 0 rfl) ?_
    refine va_get (D := D) (ci := 1) (v := .ref (ad 13)) (C := RX1) (T := TX1) (N := 2) hx hb hts iX1 hown hK hP 2 rfl rfl 0 (by decide) hf9 (fun _ h9 => h9) rfl dX1_beliefAt_13 ?_
    refine lv_iload_n hx hb dX1_beliefAt_16 rfl (lv_at hl 1 rfl) ?_
    obtain ⟨b4, h⟩ := gx_in h
    refine va_iald (D := D) hx hb hK hP 13 0 rfl rfl b4 dX1_beliefAt_17 ?_
    refine lv_if_ne (tgt := 27) hx hb dX1_beliefAt_18 (by decide) (fun c5 => ?_) (fun c5 => ?_)
    · replace h := gx_f c5 h
      refine lv_aload_n hx hb dX1_beliefAt_27 rfl (lv_at hl 0 rfl) ?_
      refine lv_iload_n hx hb dX1_beliefAt_28 rfl (lv_at hl 1 rfl) ?_
      refine lv_aload_n hx hb dX1_beliefAt_29 rfl (lv_at hl 2 rfl) ?_
      obtain ⟨y6, hc7, h⟩ := gx_bind h
      refine cc_iV (As := [.int p0, .ref (ad 1)]) (rest := []) ⟨hx, hb, hml, hown, hts⟩ (k_X1_guessAt l D cI cZ ad u p0 hc7) (cwV 2 hts (gwV mw_421 mw_422 mw_423 mw_21 mw_424) rfl rfl rfl (by decide +kernel) ⟨Nat.le_of_ble_eq_true rfl, Nat.le_of_ble_eq_true rfl⟩) hK hP hD hS hA hZ (ci := 1) (q0 := 2) rfl rfl rfl hl.1 rfl (Nat.le_of_ble_eq_true rfl) dX1_beliefAt_30 ⟨Nat.zero_le _, Nat.zero_le _⟩ (fun H locs hP hD hS => ?_)
      refine lv_istore_n (lv' := [(3, .int y6), (0, .ref (ad 2)), (1, .int p0), (2, .ref (ad 1))]) hx hb dX1_beliefAt_33 rfl hl (by decide) rfl (fun ls hl => ?_)
      refine lv_aload_n hx hb dX1_beliefAt_34 rfl (lv_at hl 1 rfl) ?_
      refine va_get (D := D) (ci := 1) (v := .ref (ad 13)) (C := RX1) (T := TX1) (N := 2) hx hb hts iX1 hown hK hP 2 rfl rfl 0 (by decide) hf9 (fun _ h9 => h9) rfl dX1_beliefAt_35 ?_
      refine lv_iload_n hx hb dX1_beliefAt_38 rfl (lv_at hl 2 rfl) ?_
      obtain ⟨b8, h⟩ := gx_in h
      refine va_iald (D := D) hx hb hK hP 13 0 rfl rfl b8 dX1_beliefAt_39 ?_
      refine lv_iconst (v := 2) hx hb dX1_beliefAt_40 (by decide) ?_
      refine lv_icmp_ne (tgt := 46) hx hb dX1_beliefAt_41 (by decide) (fun c9 => ?_) (fun c9 => ?_)
      · replace h := gx_f c9 h
        refine lv_aload_n hx hb dX1_beliefAt_46 rfl (lv_at hl 1 rfl) ?_
        refine va_get (D := D) (ci := 1) (v := .ref (ad 14)) (C := RX1) (T := TX1) (N := 2) hx hb hts iX1 hown hK hP 2 rfl rfl 1 (by decide) hf15 (fun _ h9 => h9) rfl dX1_beliefAt_47 ?_
        refine lv_iload_n hx hb dX1_beliefAt_50 rfl (lv_at hl 2 rfl) ?_
        obtain ⟨b10, h⟩ := gx_in h
        refine va_iald (D := D) hx hb hK hP 14 0 rfl rfl b10 dX1_beliefAt_51 ?_
        obtain ⟨v11, ev11, h⟩ := gx_let h
        refine lv_topn ev11 ?_
        refine lv_istore (lv' := [(4, .int v11), (3, .int y6), (0, .ref (ad 2)), (1, .int p0), (2, .ref (ad 1))]) hx hb dX1_beliefAt_52 hl (by decide) rfl (fun ls hl => ?_)
        refine lv_iload_n hx hb dX1_beliefAt_54 rfl (lv_at hl 1 rfl) ?_
        refine lv_iconst (v := (-1)) hx hb dX1_beliefAt_55 (by decide) ?_
        refine lv_icmp_eq (tgt := 75) hx hb dX1_beliefAt_56 (by decide) (fun c12 => ?_) (fun c12 => ?_)
        · replace h := gx_t c12 h
          refine lv_iload hx hb dX1_beliefAt_75 (lv_at hl 0 rfl) ?_
          cases h
          exact cc_ret hx hb hr rfl hQ hK hP hD hS rfl dX1_beliefAt_77 hlocks
        · replace h := gx_f c12 h
          refine lv_iload_n hx hb dX1_beliefAt_59 rfl (lv_at hl 1 rfl) ?_
          refine lv_iload hx hb dX1_beliefAt_60 (lv_at hl 0 rfl) ?_
          refine lv_isub hx hb dX1_beliefAt_62 ?_
          refine va_mabs hx hb (hml.trans hl.1.symm) hown (hts _ mw_425) (hts _ mw_426) (hts _ mw_29) (hts _ mw_427) (Nat.le_of_ble_eq_true rfl) (Nat.le_of_ble_eq_true rfl) (Nat.zero_le _) (Nat.zero_le _) dX1_beliefAt_63 ?_
          refine lv_bipush (v := 30) hx hb dX1_beliefAt_66 (by decide) ?_
          refine lv_icmp_le (tgt := 75) hx hb dX1_beliefAt_68 (by decide) (fun c13 => ?_) (fun c13 => ?_)
          · replace h := gx_t c13 h
            refine lv_iload hx hb dX1_beliefAt_75 (lv_at hl 0 rfl) ?_
            cases h
            exact cc_ret hx hb hr rfl hQ hK hP hD hS rfl dX1_beliefAt_77 hlocks
          · replace h := gx_f c13 h
            refine lv_iload_n hx hb dX1_beliefAt_71 rfl (lv_at hl 1 rfl) ?_
            refine lv_goto (tgt := 77) hx hb dX1_beliefAt_72 (by decide) ?_
            cases h
            exact cc_ret hx hb hr rfl hQ hK hP hD hS rfl dX1_beliefAt_77 hlocks
      · replace h := gx_t c9 h
        refine lv_iload_n hx hb dX1_beliefAt_44 rfl (lv_at hl 0 rfl) ?_
        cases h
        exact cc_ret hx hb hr rfl hQ hK hP hD hS rfl dX1_beliefAt_45 hlocks
    · replace h := gx_t c5 h
      refine lv_aload_n hx hb dX1_beliefAt_21 rfl (lv_at hl 2 rfl) ?_
      refine lv_iload_n hx hb dX1_beliefAt_22 rfl (lv_at hl 1 rfl) ?_
      obtain ⟨y14, hc15, h⟩ := gx_bind h
      refine cc_iV (As := [.int p0]) (rest := []) ⟨hx, hb, hml, hown, hts⟩ (k_X8_speedAt l D cI cZ ad u p0 hc15) (cwV 1 hts (gwV mw_413 mw_414 mw_415 mw_20 mw_416) rfl rfl rfl (by decide +kernel) ⟨Nat.le_of_ble_eq_true rfl, Nat.le_of_ble_eq_true rfl⟩) hK hP hD hS hA hZ (ci := 8) (q0 := 1) rfl rfl rfl hl.1 rfl (Nat.le_of_ble_eq_true rfl) dX1_beliefAt_23 ⟨Nat.zero_le _, Nat.zero_le _⟩ (fun H locs hP hD hS => ?_)
      cases h
      exact cc_ret hx hb hr rfl hQ hK hP hD hS rfl dX1_beliefAt_26 hlocks
  · replace h := gx_t c3 h
    refine lv_iconst (v := (-1)) hx hb dX1_beliefAt_10 (by decide) ?_
    cases h
    exact cc_ret hx hb hr rfl hQ hK hP hD hS rfl dX1_beliefAt_11 hlocks

def rX9_pattern : Room := { frames := 4, cells := 0, slots := 0, locals := 94 }
set_option maxHeartbeats 4000000 in
set_option maxRecDepth 100000 in
theorem k_X9_pattern (l : Launch) (D : va_G) (cI cZ : ClassId) (ad : Nat → Nat) (u : GS) {r : Int32} (h : g_X9_pattern u = some r) : MI l yX9_pattern (wm yX9_pattern cX9_pattern 3 (some .int)) rX9_pattern D [(cI, .int), (cZ, .boolean)] (wC cI cZ ad u) (wC cI cZ ad u) [.ref (ad 0)] r := by
  intro sz
  refine Met.ofW (cc := cX9_pattern) (maxL := 3) (ret := (some .int)) (by decide) rfl ?_
  intro p e s m args below meth c s₁ B hml hv
  obtain ⟨rfl, hsz, hP, hK, hD0, hZ⟩ := hv
  have hx := B.exec
  have hb := B.bytes
  have hr := B.returns
  have hts : ∀ w ∈ Wall, w.before _ s = true := fun w hw => atoms_spec (ws := wm yX9_pattern cX9_pattern 3 (some .int)) B.pre w (List.mem_cons_of_mem _ hw)
  have hown : s.vm.findClass RX9 = some m.cls := findClass_of_methodNamed B.named
  have hlocks := B.notSynchronized
  subst hsz
  have hD := hD0.self (sz := s.heap.size)
  generalize hAe : va_A (wC cI cZ ad u) s.heap.size = A at hD hZ ⊢
  have hA : ∀ q : Nat, s.heap.size ≤ q → A q := fun q h => by rw [← hAe]; exact Or.inr h
  have hS : va_S A s.heap s.heap [] := va_S.rf
  have hf23 := hts _ mw_276
  have hf16 := hts _ mw_275
  have hl := lv_entry ([.ref (ad 0)]) (n := 3) (Nat.le_of_ble_eq_true rfl)
  rw [lg_entry_eq]
  generalize (lg_sl ([.ref (ad 0)]) ++ List.replicate (3 - (lg_sl ([.ref (ad 0)])).length) Slot.unset).toArray = ls at hl ⊢
  replace hl : lv_has ls 3 [(0, .ref (ad 0))] := hl
  refine w_gen (fun Q hQ => ?_)
  refine lv_iconst (v := 0) hx hb dX9_pattern_0 (by decide) ?_
  refine lv_istore_n (lv' := [(1, .int (0 : Int32)), (0, .ref (ad 0))]) hx hb dX9_pattern_1 rfl hl (by decide) rfl (fun ls hl => ?_)
  have hL2 : ∀ (k : Unit → Option (Int32)) (hk : ∀ (H : Heap) (locs : List Loc) (ls : Array Slot), k () = some r → va_P D vwCl (wC cI cZ ad u) H → va_D A (wC cI cZ ad u) → va_S A s.heap H locs → lv_has ls 3 [] → W p l e rX9_pattern s m ([.ref (ad 0)] : List Value).toArray below meth c H locs 0 0 Q (F0 m 59 ls [])) (n : Nat) (x1_2 : Int32) (H : Heap) (locs : List Loc) (ls : Array Slot), lp_X9_pattern_2 u k n x1_2 = some r → va_P D vwCl (wC cI cZ ad u) H → va_D A (wC cI cZ ad u) → va_S A s.heap H locs → lv_has ls 3 [(0, .ref (ad 0)), (1, .int x1_2)] → W p l e rX9_pattern s m ([.ref (ad 0)] : List Value).toArray below meth c H locs 0 0 Q (F0 m 2 ls []) := by
    intro k hk n
    induction n with
    | zero =>
      intro x1_2 H locs ls h
      rw [lp_X9_pattern_2] at h
      cases h
    | succ n ih =>
      intro x1_2 H locs ls h hP hD hS hl
      rw [lp_X9_pattern_2] at h
      refine lv_iload_n hx hb dX9_pattern_2 rfl (lv_at hl 1 rfl) ?_
      refine lv_bipush (v := 11) hx hb dX9_pattern_3 (by decide) ?_
      refine lv_icmp_ge (tgt := 59) hx hb dX9_pattern_5 (by decide) (fun c1 => ?_) (fun c1 => ?_)
      · replace h := gx_t c1 h
        exact hk _ _ _ h hP hD hS (lv_sub hl [] rfl)
      · replace h := gx_f c1 h
        refine lv_aload_n hx hb dX9_pattern_8 rfl (lv_at hl 0 rfl) ?_
        refine va_get (D := D) (ci := 9) (v := .ref (ad 2)) (C := RX9) (T := TX9) (N := 10) hx hb hts iX9 hown hK hP 0 rfl rfl 2 (by decide) hf23 (fun _ h9 => h9) rfl dX9_pattern_9 ?_
        refine lv_iload_n hx hb dX9_pattern_12 rfl (lv_at hl 1 rfl) ?_
        refine lv_aload_n hx hb dX9_pattern_13 rfl (lv_at hl 0 rfl) ?_
        refine va_get (D := D) (ci := 9) (v := .ref (ad 1)) (C := RX9) (T := TX9) (N := 10) hx hb hts iX9 hown hK hP 0 rfl rfl 1 (by decide) hf16 (fun _ h9 => h9) rfl dX9_pattern_14 ?_
        obtain ⟨y2, hc3, h⟩ := gx_bind h
        refine cc_iV (As := [.int x1_2, .ref (ad 1)]) (rest := []) ⟨hx, hb, hml, hown, hts⟩ (k_X1_beliefAt l D cI cZ ad u x1_2 hc3) (cwV 2 hts (gwV mw_408 mw_409 mw_410 mw_21 mw_411) rfl rfl rfl (by decide +kernel) ⟨Nat.le_of_ble_eq_true rfl, Nat.le_of_ble_eq_true rfl⟩) hK hP hD hS hA hZ (ci := 1) (q0 := 2) rfl rfl rfl hl.1 rfl (Nat.le_of_ble_eq_true rfl) dX9_pattern_17 ⟨Nat.zero_le _, Nat.zero_le _⟩ (fun H locs hP hD hS => ?_)
        refine lv_istore_n (lv' := [(2, .int y2), (0, .ref (ad 0)), (1, .int x1_2)]) hx hb dX9_pattern_20 rfl hl (by decide) rfl (fun ls hl => ?_)
        refine lv_iload_n hx hb dX9_pattern_21 rfl (lv_at hl 0 rfl) ?_
        refine lv_iconst (v := (-1)) hx hb dX9_pattern_22 (by decide) ?_
        obtain ⟨j53_4, ej53_4, h⟩ := gx_let h
        have hj53_4 : ∀ (H : Heap) (locs : List Loc) (ls : Array Slot), j53_4 () = some r → va_P D vwCl (wC cI cZ ad u) H → va_D A (wC cI cZ ad u) → va_S A s.heap H locs → lv_has ls 3 [(0, .ref (ad 0)), (1, .int x1_2)] → W p l e rX9_pattern s m ([.ref (ad 0)] : List Value).toArray below meth c H locs 0 0 Q (F0 m 53 ls []) := by
          intro  H locs ls h hP hD hS hl
          subst ej53_4
          obtain ⟨v5, ev5, h⟩ := gx_let h
          refine lv_iinc (v := v5) (lv' := [(1, .int v5), (0, .ref (ad 0))]) hx hb dX9_pattern_53 hl (k := 1) rfl (by rw [← ev5]; rfl) (by decide) rfl (fun ls hl => ?_)
          refine lv_goto (tgt := 2) hx hb dX9_pattern_56 (by decide) ?_
          exact ih v5 _ _ _ h hP hD hS (lv_sub hl [1, 0] rfl)
        refine lv_icmp_eq (tgt := 53) hx hb dX9_pattern_23 (by decide) (fun c6 => ?_) (fun c6 => ?_)
        · replace h := gx_t c6 h
          exact hj53_4 _ _ _ h hP hD hS (lv_sub hl [1, 2] rfl)
        · replace h := gx_f c6 h
          refine lv_iload_n hx hb dX9_pattern_26 rfl (lv_at hl 0 rfl) ?_
          refine lv_bipush (v := 40) hx hb dX9_pattern_27 (by decide) ?_
          refine lv_icmp_ge (tgt := 53) hx hb dX9_pattern_29 (by decide) (fun c7 => ?_) (fun c7 => ?_)
          · replace h := gx_t c7 h
            exact hj53_4 _ _ _ h hP hD hS (lv_sub hl [1, 2] rfl)
          · replace h := gx_f c7 h
            refine lv_aload_n hx hb dX9_pattern_32 rfl (lv_at hl 1 rfl) ?_
            refine va_get (D := D) (ci := 9) (v := .ref (ad 2)) (C := RX9) (T := TX9) (N := 10) hx hb hts iX9 hown hK hP 0 rfl rfl 2 (by decide) hf23 (fun _ h9 => h9) rfl dX9_pattern_33 ?_
            refine lv_iload_n hx hb dX9_pattern_36 rfl (lv_at hl 2 rfl) ?_
            refine lv_iconst (v := 1) hx hb dX9_pattern_37 (by decide) ?_
            refine lv_iadd hx hb dX9_pattern_38 ?_
            refine lv_aload_n hx hb dX9_pattern_39 rfl (lv_at hl 1 rfl) ?_
            refine va_get (D := D) (ci := 9) (v := .ref (ad 1)) (C := RX9) (T := TX9) (N := 10) hx hb hts iX9 hown hK hP 0 rfl rfl 1 (by decide) hf16 (fun _ h9 => h9) rfl dX9_pattern_40 ?_
            obtain ⟨y8, hc9, h⟩ := gx_bind h
            refine cc_iV (As := [.int (x1_2 + (1 : Int32)), .ref (ad 1)]) (rest := []) ⟨hx, hb, hml, hown, hts⟩ (k_X1_beliefAt l D cI cZ ad u (x1_2 + (1 : Int32)) hc9) (cwV 2 hts (gwV mw_408 mw_409 mw_410 mw_21 mw_411) rfl rfl rfl (by decide +kernel) ⟨Nat.le_of_ble_eq_true rfl, Nat.le_of_ble_eq_true rfl⟩) hK hP hD hS hA hZ (ci := 1) (q0 := 2) rfl rfl rfl hl.1 rfl (Nat.le_of_ble_eq_true rfl) dX9_pattern_43 ⟨Nat.zero_le _, Nat.zero_le _⟩ (fun H locs hP hD hS => ?_)
            refine lv_bipush (v := 80) hx hb dX9_pattern_46 (by decide) ?_
            refine lv_icmp_lt (tgt := 53) hx hb dX9_pattern_48 (by decide) (fun c10 => ?_) (fun c10 => ?_)
            · replace h := gx_t c10 h
              exact hj53_4 _ _ _ h hP hD hS (lv_sub hl [1, 2] rfl)
            · replace h := gx_f c10 h
              refine lv_iload_n hx hb dX9_pattern_51 rfl (lv_at hl 2 rfl) ?_
              cases h
              exact cc_ret hx hb hr rfl hQ hK hP hD hS rfl dX9_pattern_52 hlocks
  refine hL2 _ (fun H locs ls h hP hD hS hl => ?_) FU (0 : Int32) _ _ _ h hP hD hS (lv_sub hl [1, 0] rfl)
  refine lv_iconst (v := (-1)) hx hb dX9_pattern_59 (by decide) ?_
  cases h
  exact cc_ret hx hb hr rfl hQ hK hP hD hS rfl dX9_pattern_60 hlocks
end
section
def rX9_needIndex : Room := { frames := 0, cells := 0, slots := 0, locals := 0 }
set_option maxHeartbeats 4000000 in
set_option maxRecDepth 100000 in
theorem k_X9_needIndex (l : Launch) (D : va_G) (cI cZ : ClassId) (ad : Nat → Nat) (u : GS) (p0 : Int32) {r : Int32} {w' : GS} (h : g_X9_needIndex u p0 = some (.inl r, w')) : MV l yX9_needIndex (wm yX9_needIndex cX9_needIndex 1 none) rX9_needIndex D [(cI, .int), (cZ, .boolean)] (wC cI cZ ad u) (wC cI cZ ad w') [.int p0] := by
  intro sz
  refine Met.ofW (cc := cX9_needIndex) (maxL := 1) (ret := none) (by decide) rfl ?_
  intro p e s m args below meth c s₁ B hml hv
  obtain ⟨rfl, hsz, hP, hK, hD0, hZ⟩ := hv
  have hx := B.exec
  have hb := B.bytes
  have hr := B.returns
  have hts : ∀ w ∈ Wall, w.before _ s = true := fun w hw => atoms_spec (ws := wm yX9_needIndex cX9_needIndex 1 none) B.pre w (List.mem_cons_of_mem _ hw)
  have hown : s.vm.findClass RX9 = some m.cls := findClass_of_methodNamed B.named
  have hlocks := B.notSynchronized
  subst hsz
  have hD := hD0.self (sz := s.heap.size)
  generalize hAe : va_A (wC cI cZ ad u) s.heap.size = A at hD hZ ⊢
  have hA : ∀ q : Nat, s.heap.size ≤ q → A q := fun q h => by rw [← hAe]; exact Or.inr h
  have hS : va_S A s.heap s.heap [] := va_S.rf
  have hl := lv_entry ([.int p0]) (n := 1) (Nat.le_of_ble_eq_true rfl)
  rw [lg_entry_eq]
  generalize (lg_sl ([.int p0]) ++ List.replicate (1 - (lg_sl ([.int p0])).length) Slot.unset).toArray = ls at hl ⊢
  replace hl : lv_has ls 1 [(0, .int p0)] := hl
  refine w_gen (fun Q hQ => ?_)
  refine lv_iload_n hx hb dX9_needIndex_0 rfl (lv_at hl 0 rfl) ?_
  refine lv_if_ne (tgt := 15) hx hb dX9_needIndex_1 (by decide) (fun c1 => ?_) (fun c1 => ?_)
  · replace h := gx_f c1 h
    cases h
    exact cc_vret hx hb hr hQ hK hP hD hS dX9_needIndex_15 hlocks
  · replace h := gx_t c1 h
    cases h

def rx_X9_needIndex : Room := { frames := 6, cells := 1, slots := 6, locals := 90 }
set_option maxHeartbeats 4000000 in
set_option maxRecDepth 100000 in
theorem kx_X9_needIndex (l : Launch) (hl0 : l.stackTraces = false) (D : va_G) (cI cZ : ClassId) (ad : Nat → Nat) (u : GS) (p0 : Int32) {E : String} {w' : GS} (h : g_X9_needIndex u p0 = some (.inr E, w')) : XV l yX9_needIndex (wm yX9_needIndex cX9_needIndex 1 none) rx_X9_needIndex D [(cI, .int), (cZ, .boolean)] (wC cI cZ ad u) (wC cI cZ ad w') [.int p0] E := by
  intro sz
  refine vx_ofW (cc := cX9_needIndex) (maxL := 1) (ret := none) (by decide) rfl ?_
  intro p e s m args below meth c s₁ B hml hout hv
  obtain ⟨rfl, hsz, hP, hK, hD0, hZ⟩ := hv
  have hx := B.exec
  have hb := B.bytes
  have hts : ∀ w ∈ Wall, w.before _ s = true := fun w hw => atoms_spec (ws := wm yX9_needIndex cX9_needIndex 1 none) B.pre w (List.mem_cons_of_mem _ hw)
  have hown : s.vm.findClass RX9 = some m.cls := findClass_of_methodNamed B.named
  have hlocks := B.notSynchronized
  subst hsz
  have hD := hD0.self (sz := s.heap.size)
  generalize hAe : va_A (wC cI cZ ad u) s.heap.size = A at hD hZ
  have hA : ∀ q : Nat, s.heap.size ≤ q → A q := fun q h => by rw [← hAe]; exact Or.inr h
  have hS : va_S A s.heap s.heap [] := va_S.rf
  have hl := lv_entry ([.int p0]) (n := 1) (Nat.le_of_ble_eq_true rfl)
  rw [lg_entry_eq]
  generalize (lg_sl ([.int p0]) ++ List.replicate (1 - (lg_sl ([.int p0])).length) Slot.unset).toArray = ls at hl ⊢
  replace hl : lv_has ls 1 [(0, .int p0)] := hl
  refine w_gen (fun Q hQ => ?_)
  refine lv_iload_n hx hb dX9_needIndex_0 rfl (lv_at hl 0 rfl) ?_
  refine lv_if_ne (tgt := 15) hx hb dX9_needIndex_1 (by decide) (fun c1 => ?_) (fun c1 => ?_)
  · replace h := gx_f c1 h
    cases h
  · replace h := gx_t c1 h
    cases h
    obtain ⟨sa, hstr⟩ := hZ.2.2.2.2.2.1
    exact cX_throw (names := ["java/lang/RuntimeException", "java/lang/Exception"]) hx hb hl0 hown (by decide +kernel) (by decide +kernel) (hts _ mw_319) (hts _ mw_33) hstr (fun w h => hts w (at_ioobe w h)) (by decide +kernel) hZ.2.2.2.2.2.2.2.2 (by decide +kernel) (by decide +kernel) hAe hZ.2.2.2.2.1 hQ hout hlocks hK hP hD hS (hl.1.trans hml.symm) dX9_needIndex_4 dX9_needIndex_7 dX9_needIndex_8 dX9_needIndex_11 dX9_needIndex_14 (Nat.le_of_ble_eq_true rfl) (Nat.le_of_ble_eq_true rfl) (Nat.le_of_ble_eq_true rfl) (Nat.le_of_ble_eq_true rfl)

def rX9_needSection : Room := { frames := 1, cells := 0, slots := 0, locals := 22 }
set_option maxHeartbeats 4000000 in
set_option maxRecDepth 100000 in
theorem k_X9_needSection (l : Launch) (D : va_G) (cI cZ : ClassId) (ad : Nat → Nat) (u : GS) (p0 : Int32) {r : Int32} {w' : GS} (h : g_X9_needSection u p0 = some (.inl r, w')) : MV l yX9_needSection (wm yX9_needSection cX9_needSection 1 none) rX9_needSection D [(cI, .int), (cZ, .boolean)] (wC cI cZ ad u) (wC cI cZ ad w') [.int p0] := by
  intro sz
  refine Met.ofW (cc := cX9_needSection) (maxL := 1) (ret := none) (by decide) rfl ?_
  intro p e s m args below meth c s₁ B hml hv
  obtain ⟨rfl, hsz, hP, hK, hD0, hZ⟩ := hv
  have hx := B.exec
  have hb := B.bytes
  have hr := B.returns
  have hts : ∀ w ∈ Wall, w.before _ s = true := fun w hw => atoms_spec (ws := wm yX9_needSection cX9_needSection 1 none) B.pre w (List.mem_cons_of_mem _ hw)
  have hown : s.vm.findClass RX9 = some m.cls := findClass_of_methodNamed B.named
  have hlocks := B.notSynchronized
  subst hsz
  have hD := hD0.self (sz := s.heap.size)
  generalize hAe : va_A (wC cI cZ ad u) s.heap.size = A at hD hZ ⊢
  have hA : ∀ q : Nat, s.heap.size ≤ q → A q := fun q h => by rw [← hAe]; exact Or.inr h
  have hS : va_S A s.heap s.heap [] := va_S.rf
  have hl := lv_entry ([.int p0]) (n := 1) (Nat.le_of_ble_eq_true rfl)
  rw [lg_entry_eq]
  generalize (lg_sl ([.int p0]) ++ List.replicate (1 - (lg_sl ([.int p0])).length) Slot.unset).toArray = ls at hl ⊢
  replace hl : lv_has ls 1 [(0, .int p0)] := hl
  refine w_gen (fun Q hQ => ?_)
  refine lv_iload_n hx hb dX9_needSection_0 rfl (lv_at hl 0 rfl) ?_
  refine lv_iconst (v := 0) hx hb dX9_needSection_1 (by decide) ?_
  refine lv_bipush (v := 11) hx hb dX9_needSection_2 (by decide) ?_
  obtain ⟨y1, hc2, h⟩ := gx_bind h
  refine cc_iS (As := [.int p0, .int (0 : Int32), .int (11 : Int32)]) (rest := []) ⟨hx, hb, hml, hown, hts⟩ (k_X9_isWithin l D cI cZ ad u p0 (0 : Int32) (11 : Int32) hc2) (va_cwS 3 hts (gwS mw_315 mw_243 mw_19 mw_244) rfl rfl rfl (by decide +kernel) ⟨Nat.le_of_ble_eq_true rfl, Nat.le_of_ble_eq_true rfl⟩) hK hP hD hS hA hZ rfl hl.1 rfl (Nat.le_of_ble_eq_true rfl) dX9_needSection_4 ⟨Nat.zero_le _, Nat.zero_le _⟩ (fun H locs hP hD hS => ?_)
  obtain ⟨y3, u4, hc5, h⟩ := gx_xr h
  refine cc_vS (As := [.int y1]) (rest := []) ⟨hx, hb, hml, hown, hts⟩ (k_X9_needIndex l D cI cZ ad u y1 hc5) (va_cwS 1 hts (gwS mw_316 mw_317 mw_19 mw_318) rfl rfl rfl (by decide +kernel) ⟨Nat.le_of_ble_eq_true rfl, Nat.le_of_ble_eq_true rfl⟩) hK hP hD hS hA hZ rfl hl.1 rfl (Nat.le_of_ble_eq_true rfl) dX9_needSection_7 ⟨Nat.zero_le _, Nat.zero_le _⟩ (fun H locs hP hD hS => ?_)
  cases h
  exact cc_vret hx hb hr hQ hK hP hD hS dX9_needSection_10 hlocks

def rx_X9_needSection : Room := { frames := 7, cells := 1, slots := 6, locals := 110 }
set_option maxHeartbeats 4000000 in
set_option maxRecDepth 100000 in
theorem kx_X9_needSection (l : Launch) (hl0 : l.stackTraces = false) (D : va_G) (cI cZ : ClassId) (ad : Nat → Nat) (u : GS) (p0 : Int32) {E : String} {w' : GS} (h : g_X9_needSection u p0 = some (.inr E, w')) : XV l yX9_needSection (wm yX9_needSection cX9_needSection 1 none) rx_X9_needSection D [(cI, .int), (cZ, .boolean)] (wC cI cZ ad u) (wC cI cZ ad w') [.int p0] E := by
  intro sz
  refine vx_ofW (cc := cX9_needSection) (maxL := 1) (ret := none) (by decide) rfl ?_
  intro p e s m args below meth c s₁ B hml hout hv
  obtain ⟨rfl, hsz, hP, hK, hD0, hZ⟩ := hv
  have hx := B.exec
  have hb := B.bytes
  have hts : ∀ w ∈ Wall, w.before _ s = true := fun w hw => atoms_spec (ws := wm yX9_needSection cX9_needSection 1 none) B.pre w (List.mem_cons_of_mem _ hw)
  have hown : s.vm.findClass RX9 = some m.cls := findClass_of_methodNamed B.named
  have hlocks := B.notSynchronized
  subst hsz
  have hD := hD0.self (sz := s.heap.size)
  generalize hAe : va_A (wC cI cZ ad u) s.heap.size = A at hD hZ
  have hA : ∀ q : Nat, s.heap.size ≤ q → A q := fun q h => by rw [← hAe]; exact Or.inr h
  have hS : va_S A s.heap s.heap [] := va_S.rf
  have hl := lv_entry ([.int p0]) (n := 1) (Nat.le_of_ble_eq_true rfl)
  rw [lg_entry_eq]
  generalize (lg_sl ([.int p0]) ++ List.replicate (1 - (lg_sl ([.int p0])).length) Slot.unset).toArray = ls at hl ⊢
  replace hl : lv_has ls 1 [(0, .int p0)] := hl
  refine w_gen (fun Q hQ => ?_)
  refine lv_iload_n hx hb dX9_needSection_0 rfl (lv_at hl 0 rfl) ?_
  refine lv_iconst (v := 0) hx hb dX9_needSection_1 (by decide) ?_
  refine lv_bipush (v := 11) hx hb dX9_needSection_2 (by decide) ?_
  obtain ⟨y1, hc2, h⟩ := gx_bind h
  refine cc_iS (As := [.int p0, .int (0 : Int32), .int (11 : Int32)]) (rest := []) ⟨hx, hb, hml, hown, hts⟩ (k_X9_isWithin l D cI cZ ad u p0 (0 : Int32) (11 : Int32) hc2) (va_cwS 3 hts (gwS mw_315 mw_243 mw_19 mw_244) rfl rfl rfl (by decide +kernel) ⟨Nat.le_of_ble_eq_true rfl, Nat.le_of_ble_eq_true rfl⟩) hK hP hD hS hA hZ rfl hl.1 rfl (Nat.le_of_ble_eq_true rfl) dX9_needSection_4 ⟨Nat.zero_le _, Nat.zero_le _⟩ (fun H locs hP hD hS => ?_)
  rcases gx_xx h with ⟨y3, u4, hc5, h⟩ | ⟨u4, hc5, ew⟩
  · refine cc_vS (As := [.int y1]) (rest := []) ⟨hx, hb, hml, hown, hts⟩ (k_X9_needIndex l D cI cZ ad u y1 hc5) (va_cwS 1 hts (gwS mw_316 mw_317 mw_19 mw_318) rfl rfl rfl (by decide +kernel) ⟨Nat.le_of_ble_eq_true rfl, Nat.le_of_ble_eq_true rfl⟩) hK hP hD hS hA hZ rfl hl.1 rfl (Nat.le_of_ble_eq_true rfl) dX9_needSection_7 ⟨Nat.zero_le _, Nat.zero_le _⟩ (fun H locs hP hD hS => ?_)
    cases h
  · replace ew : u4 = w' := ew
    subst ew
    refine cX_vS (As := [.int y1]) (rest := []) ⟨hx, hb, hml, hown, hts⟩ (kx_X9_needIndex l hl0 D cI cZ ad u y1 hc5) (va_cwS 1 hts (gwS mw_316 mw_317 mw_19 mw_318) rfl rfl rfl (by decide +kernel) ⟨Nat.le_of_ble_eq_true rfl, Nat.le_of_ble_eq_true rfl⟩) hK hP hD hS hA hZ rfl hl.1 rfl (Nat.le_of_ble_eq_true rfl) dX9_needSection_7 ⟨Nat.le_of_ble_eq_true rfl, Nat.le_of_ble_eq_true rfl⟩ (fun ce q9 H locs hP hD hS hz h1 h2 h3 => ?_)
    exact cX_back hAe hQ hout hlocks hK rfl hP hD hS hz h1 h2 h3 (Nat.le_refl _) (Nat.le_refl _)

def rX9_needPlace : Room := { frames := 2, cells := 0, slots := 0, locals := 42 }
set_option maxHeartbeats 4000000 in
set_option maxRecDepth 100000 in
theorem k_X9_needPlace (l : Launch) (D : va_G) (cI cZ : ClassId) (ad : Nat → Nat) (u : GS) (p0 : Int32) (p1 : Int32) {r : Int32} {w' : GS} (h : g_X9_needPlace u p0 p1 = some (.inl r, w')) : MV l yX9_needPlace (wm yX9_needPlace cX9_needPlace 2 none) rX9_needPlace D [(cI, .int), (cZ, .boolean)] (wC cI cZ ad u) (wC cI cZ ad w') [.int p0, .int p1] := by
  intro sz
  refine Met.ofW (cc := cX9_needPlace) (maxL := 2) (ret := none) (by decide) rfl ?_
  intro p e s m args below meth c s₁ B hml hv
  obtain ⟨rfl, hsz, hP, hK, hD0, hZ⟩ := hv
  have hx := B.exec
  have hb := B.bytes
  have hr := B.returns
  have hts : ∀ w ∈ Wall, w.before _ s = true := fun w hw => atoms_spec (ws := wm yX9_needPlace cX9_needPlace 2 none) B.pre w (List.mem_cons_of_mem _ hw)
  have hown : s.vm.findClass RX9 = some m.cls := findClass_of_methodNamed B.named
  have hlocks := B.notSynchronized
  subst hsz
  have hD := hD0.self (sz := s.heap.size)
  generalize hAe : va_A (wC cI cZ ad u) s.heap.size = A at hD hZ ⊢
  have hA : ∀ q : Nat, s.heap.size ≤ q → A q := fun q h => by rw [← hAe]; exact Or.inr h
  have hS : va_S A s.heap s.heap [] := va_S.rf
  have hl := lv_entry ([.int p0, .int p1]) (n := 2) (Nat.le_of_ble_eq_true rfl)
  rw [lg_entry_eq]
  generalize (lg_sl ([.int p0, .int p1]) ++ List.replicate (2 - (lg_sl ([.int p0, .int p1])).length) Slot.unset).toArray = ls at hl ⊢
  replace hl : lv_has ls 2 [(0, .int p0), (1, .int p1)] := hl
  refine w_gen (fun Q hQ => ?_)
  refine lv_iload_n hx hb dX9_needPlace_0 rfl (lv_at hl 0 rfl) ?_
  obtain ⟨y1, u2, hc3, h⟩ := gx_xr h
  refine cc_vS (As := [.int p0]) (rest := []) ⟨hx, hb, hml, hown, hts⟩ (k_X9_needSection l D cI cZ ad u p0 hc3) (va_cwS 1 hts (gwS mw_312 mw_313 mw_19 mw_314) rfl rfl rfl (by decide +kernel) ⟨Nat.le_of_ble_eq_true rfl, Nat.le_of_ble_eq_true rfl⟩) hK hP hD hS hA hZ rfl hl.1 rfl (Nat.le_of_ble_eq_true rfl) dX9_needPlace_1 ⟨Nat.zero_le _, Nat.zero_le _⟩ (fun H locs hP hD hS => ?_)
  refine lv_iload_n hx hb dX9_needPlace_4 rfl (lv_at hl 1 rfl) ?_
  refine lv_iconst (v := 0) hx hb dX9_needPlace_5 (by decide) ?_
  refine lv_iconst (v := 3) hx hb dX9_needPlace_6 (by decide) ?_
  obtain ⟨y4, hc5, h⟩ := gx_bind h
  refine cc_iS (As := [.int p1, .int (0 : Int32), .int (3 : Int32)]) (rest := []) ⟨hx, hb, hml, hown, hts⟩ (k_X9_isWithin l D cI cZ ad u2 p1 (0 : Int32) (3 : Int32) hc5) (va_cwS 3 hts (gwS mw_315 mw_243 mw_19 mw_244) rfl rfl rfl (by decide +kernel) ⟨Nat.le_of_ble_eq_true rfl, Nat.le_of_ble_eq_true rfl⟩) hK hP hD hS hA hZ rfl hl.1 rfl (Nat.le_of_ble_eq_true rfl) dX9_needPlace_7 ⟨Nat.zero_le _, Nat.zero_le _⟩ (fun H locs hP hD hS => ?_)
  obtain ⟨y6, u7, hc8, h⟩ := gx_xr h
  refine cc_vS (As := [.int y4]) (rest := []) ⟨hx, hb, hml, hown, hts⟩ (k_X9_needIndex l D cI cZ ad u2 y4 hc8) (va_cwS 1 hts (gwS mw_316 mw_317 mw_19 mw_318) rfl rfl rfl (by decide +kernel) ⟨Nat.le_of_ble_eq_true rfl, Nat.le_of_ble_eq_true rfl⟩) hK hP hD hS hA hZ rfl hl.1 rfl (Nat.le_of_ble_eq_true rfl) dX9_needPlace_10 ⟨Nat.zero_le _, Nat.zero_le _⟩ (fun H locs hP hD hS => ?_)
  cases h
  exact cc_vret hx hb hr hQ hK hP hD hS dX9_needPlace_13 hlocks

def rx_X9_needPlace : Room := { frames := 8, cells := 1, slots := 6, locals := 130 }
set_option maxHeartbeats 4000000 in
set_option maxRecDepth 100000 in
theorem kx_X9_needPlace (l : Launch) (hl0 : l.stackTraces = false) (D : va_G) (cI cZ : ClassId) (ad : Nat → Nat) (u : GS) (p0 : Int32) (p1 : Int32) {E : String} {w' : GS} (h : g_X9_needPlace u p0 p1 = some (.inr E, w')) : XV l yX9_needPlace (wm yX9_needPlace cX9_needPlace 2 none) rx_X9_needPlace D [(cI, .int), (cZ, .boolean)] (wC cI cZ ad u) (wC cI cZ ad w') [.int p0, .int p1] E := by
  intro sz
  refine vx_ofW (cc := cX9_needPlace) (maxL := 2) (ret := none) (by decide) rfl ?_
  intro p e s m args below meth c s₁ B hml hout hv
  obtain ⟨rfl, hsz, hP, hK, hD0, hZ⟩ := hv
  have hx := B.exec
  have hb := B.bytes
  have hts : ∀ w ∈ Wall, w.before _ s = true := fun w hw => atoms_spec (ws := wm yX9_needPlace cX9_needPlace 2 none) B.pre w (List.mem_cons_of_mem _ hw)
  have hown : s.vm.findClass RX9 = some m.cls := findClass_of_methodNamed B.named
  have hlocks := B.notSynchronized
  subst hsz
  have hD := hD0.self (sz := s.heap.size)
  generalize hAe : va_A (wC cI cZ ad u) s.heap.size = A at hD hZ
  have hA : ∀ q : Nat, s.heap.size ≤ q → A q := fun q h => by rw [← hAe]; exact Or.inr h
  have hS : va_S A s.heap s.heap [] := va_S.rf
  have hl := lv_entry ([.int p0, .int p1]) (n := 2) (Nat.le_of_ble_eq_true rfl)
  rw [lg_entry_eq]
  generalize (lg_sl ([.int p0, .int p1]) ++ List.replicate (2 - (lg_sl ([.int p0, .int p1])).length) Slot.unset).toArray = ls at hl ⊢
  replace hl : lv_has ls 2 [(0, .int p0), (1, .int p1)] := hl
  refine w_gen (fun Q hQ => ?_)
  refine lv_iload_n hx hb dX9_needPlace_0 rfl (lv_at hl 0 rfl) ?_
  rcases gx_xx h with ⟨y1, u2, hc3, h⟩ | ⟨u2, hc3, ew⟩
  · refine cc_vS (As := [.int p0]) (rest := []) ⟨hx, hb, hml, hown, hts⟩ (k_X9_needSection l D cI cZ ad u p0 hc3) (va_cwS 1 hts (gwS mw_312 mw_313 mw_19 mw_314) rfl rfl rfl (by decide +kernel) ⟨Nat.le_of_ble_eq_true rfl, Nat.le_of_ble_eq_true rfl⟩) hK hP hD hS hA hZ rfl hl.1 rfl (Nat.le_of_ble_eq_true rfl) dX9_needPlace_1 ⟨Nat.zero_le _, Nat.zero_le _⟩ (fun H locs hP hD hS => ?_)
    refine lv_iload_n hx hb dX9_needPlace_4 rfl (lv_at hl 1 rfl) ?_
    refine lv_iconst (v := 0) hx hb dX9_needPlace_5 (by decide) ?_
    refine lv_iconst (v := 3) hx hb dX9_needPlace_6 (by decide) ?_
    obtain ⟨y4, hc5, h⟩ := gx_bind h
    refine cc_iS (As := [.int p1, .int (0 : Int32), .int (3 : Int32)]) (rest := []) ⟨hx, hb, hml, hown, hts⟩ (k_X9_isWithin l D cI cZ ad u2 p1 (0 : Int32) (3 : Int32) hc5) (va_cwS 3 hts (gwS mw_315 mw_243 mw_19 mw_244) rfl rfl rfl (by decide +kernel) ⟨Nat.le_of_ble_eq_true rfl, Nat.le_of_ble_eq_true rfl⟩) hK hP hD hS hA hZ rfl hl.1 rfl (Nat.le_of_ble_eq_true rfl) dX9_needPlace_7 ⟨Nat.zero_le _, Nat.zero_le _⟩ (fun H locs hP hD hS => ?_)
    rcases gx_xx h with ⟨y6, u7, hc8, h⟩ | ⟨u7, hc8, ew⟩
    · refine cc_vS (As := [.int y4]) (rest := []) ⟨hx, hb, hml, hown, hts⟩ (k_X9_needIndex l D cI cZ ad u2 y4 hc8) (va_cwS 1 hts (gwS mw_316 mw_317 mw_19 mw_318) rfl rfl rfl (by decide +kernel) ⟨Nat.le_of_ble_eq_true rfl, Nat.le_of_ble_eq_true rfl⟩) hK hP hD hS hA hZ rfl hl.1 rfl (Nat.le_of_ble_eq_true rfl) dX9_needPlace_10 ⟨Nat.zero_le _, Nat.zero_le _⟩ (fun H locs hP hD hS => ?_)
      cases h
    · replace ew : u7 = w' := ew
      subst ew
      refine cX_vS (As := [.int y4]) (rest := []) ⟨hx, hb, hml, hown, hts⟩ (kx_X9_needIndex l hl0 D cI cZ ad u2 y4 hc8) (va_cwS 1 hts (gwS mw_316 mw_317 mw_19 mw_318) rfl rfl rfl (by decide +kernel) ⟨Nat.le_of_ble_eq_true rfl, Nat.le_of_ble_eq_true rfl⟩) hK hP hD hS hA hZ rfl hl.1 rfl (Nat.le_of_ble_eq_true rfl) dX9_needPlace_10 ⟨Nat.le_of_ble_eq_true rfl, Nat.le_of_ble_eq_true rfl⟩ (fun ce q9 H locs hP hD hS hz h1 h2 h3 => ?_)
      exact cX_back hAe hQ hout hlocks hK rfl hP hD hS hz h1 h2 h3 (Nat.le_refl _) (Nat.le_refl _)
  · replace ew : u2 = w' := ew
    subst ew
    refine cX_vS (As := [.int p0]) (rest := []) ⟨hx, hb, hml, hown, hts⟩ (kx_X9_needSection l hl0 D cI cZ ad u p0 hc3) (va_cwS 1 hts (gwS mw_312 mw_313 mw_19 mw_314) rfl rfl rfl (by decide +kernel) ⟨Nat.le_of_ble_eq_true rfl, Nat.le_of_ble_eq_true rfl⟩) hK hP hD hS hA hZ rfl hl.1 rfl (Nat.le_of_ble_eq_true rfl) dX9_needPlace_1 ⟨Nat.le_of_ble_eq_true rfl, Nat.le_of_ble_eq_true rfl⟩ (fun ce q9 H locs hP hD hS hz h1 h2 h3 => ?_)
    exact cX_back hAe hQ hout hlocks hK rfl hP hD hS hz h1 h2 h3 (Nat.le_refl _) (Nat.le_refl _)

def rX9_sign : Room := { frames := 5, cells := 0, slots := 0, locals := 114 }
set_option maxHeartbeats 4000000 in
set_option maxRecDepth 100000 in
theorem k_X9_sign (l : Launch) (D : va_G) (cI cZ : ClassId) (ad : Nat → Nat) (u : GS) (p0 : Int32) (p1 : Int32) {r : Int32} {w' : GS} (h : g_X9_sign u p0 p1 = some (.inl r, w')) : MI l yX9_sign (wm yX9_sign cX9_sign 3 (some .int)) rX9_sign D [(cI, .int), (cZ, .boolean)] (wC cI cZ ad u) (wC cI cZ ad w') [.ref (ad 0), .int p0, .int p1] r := by
  intro sz
  refine Met.ofW (cc := cX9_sign) (maxL := 3) (ret := (some .int)) (by decide) rfl ?_
  intro p e s m args below meth c s₁ B hml hv
  obtain ⟨rfl, hsz, hP, hK, hD0, hZ⟩ := hv
  have hx := B.exec
  have hb := B.bytes
  have hr := B.returns
  have hts : ∀ w ∈ Wall, w.before _ s = true := fun w hw => atoms_spec (ws := wm yX9_sign cX9_sign 3 (some .int)) B.pre w (List.mem_cons_of_mem _ hw)
  have hown : s.vm.findClass RX9 = some m.cls := findClass_of_methodNamed B.named
  have hlocks := B.notSynchronized
  subst hsz
  have hD := hD0.self (sz := s.heap.size)
  generalize hAe : va_A (wC cI cZ ad u) s.heap.size = A at hD hZ ⊢
  have hA : ∀ q : Nat, s.heap.size ≤ q → A q := fun q h => by rw [← hAe]; exact Or.inr h
  have hS : va_S A s.heap s.heap [] := va_S.rf
  have hf37 := hts _ mw_278
  have hf84 := hts _ mw_128
  have hl := lv_entry ([.ref (ad 0), .int p0, .int p1]) (n := 3) (Nat.le_of_ble_eq_true rfl)
  rw [lg_entry_eq]
  generalize (lg_sl ([.ref (ad 0), .int p0, .int p1]) ++ List.replicate (3 - (lg_sl ([.ref (ad 0), .int p0, .int p1])).length) Slot.unset).toArray = ls at hl ⊢
  replace hl : lv_has ls 3 [(0, .ref (ad 0)), (1, .int p0), (2, .int p1)] := hl
  refine w_gen (fun Q hQ => ?_)
  refine lv_iload_n hx hb dX9_sign_0 rfl (lv_at hl 1 rfl) ?_
  refine lv_iload_n hx hb dX9_sign_1 rfl (lv_at hl 2 rfl) ?_
  obtain ⟨y1, u2, hc3, h⟩ := gx_xr h
  refine cc_vS (As := [.int p0, .int p1]) (rest := []) ⟨hx, hb, hml, hown, hts⟩ (k_X9_needPlace l D cI cZ ad u p0 p1 hc3) (va_cwS 2 hts (gwS mw_309 mw_310 mw_19 mw_311) rfl rfl rfl (by decide +kernel) ⟨Nat.le_of_ble_eq_true rfl, Nat.le_of_ble_eq_true rfl⟩) hK hP hD hS hA hZ rfl hl.1 rfl (Nat.le_of_ble_eq_true rfl) dX9_sign_2 ⟨Nat.zero_le _, Nat.zero_le _⟩ (fun H locs hP hD hS => ?_)
  refine lv_aload_n hx hb dX9_sign_5 rfl (lv_at hl 0 rfl) ?_
  obtain ⟨y4, hc5, h⟩ := gx_bind h
  refine cc_vV (As := []) (rest := []) ⟨hx, hb, hml, hown, hts⟩ (k_X9_setLaneSigns l D cI cZ ad u2 hc5) (cwV 0 hts (gwV mw_387 mw_389 mw_2 mw_19 mw_390) rfl rfl rfl (by decide +kernel) ⟨Nat.le_of_ble_eq_true rfl, Nat.le_of_ble_eq_true rfl⟩) hK hP hD hS hA hZ (ci := 9) (q0 := 0) rfl rfl rfl hl.1 rfl (Nat.le_of_ble_eq_true rfl) dX9_sign_6 ⟨Nat.zero_le _, Nat.zero_le _⟩ (fun H locs hP hD hS => ?_)
  refine lv_aload_n hx hb dX9_sign_9 rfl (lv_at hl 0 rfl) ?_
  refine va_get (D := D) (ci := 9) (v := .ref (ad 4)) (C := RX9) (T := TX9) (N := 10) hx hb hts iX9 hown hK hP 0 rfl rfl 4 (by decide) hf37 (fun _ h9 => h9) rfl dX9_sign_10 ?_
  refine va_get (D := D) (ci := 3) (v := .ref (ad 20)) (C := RX3) (T := TX3) (N := 3) hx hb hts iX3 hown hK hP 4 rfl rfl 2 (by decide) hf84 (fun _ h9 => h9) rfl dX9_sign_13 ?_
  refine lv_iload_n hx hb dX9_sign_16 rfl (lv_at hl 1 rfl) ?_
  refine lv_iload_n hx hb dX9_sign_17 rfl (lv_at hl 2 rfl) ?_
  obtain ⟨y6, hc7, h⟩ := gx_bind h
  refine cc_iS (As := [.int p0, .int p1]) (rest := [.ref (ad 20)]) ⟨hx, hb, hml, hown, hts⟩ (k_X9_placeOf l D cI cZ ad y4 p0 p1 hc7) (va_cwS 2 hts (gwS mw_391 mw_236 mw_19 mw_237) rfl rfl rfl (by decide +kernel) ⟨Nat.le_of_ble_eq_true rfl, Nat.le_of_ble_eq_true rfl⟩) hK hP hD hS hA hZ rfl hl.1 rfl (Nat.le_of_ble_eq_true rfl) dX9_sign_18 ⟨Nat.zero_le _, Nat.zero_le _⟩ (fun H locs hP hD hS => ?_)
  obtain ⟨b8, h⟩ := gx_in h
  refine va_iald (D := D) hx hb hK hP 20 0 rfl rfl b8 dX9_sign_21 ?_
  cases h
  exact cc_ret hx hb hr rfl hQ hK hP hD hS rfl dX9_sign_22 hlocks

def rX9_needArgument : Room := { frames := 0, cells := 0, slots := 0, locals := 0 }
set_option maxHeartbeats 4000000 in
set_option maxRecDepth 100000 in
theorem k_X9_needArgument (l : Launch) (D : va_G) (cI cZ : ClassId) (ad : Nat → Nat) (u : GS) (p0 : Int32) {r : Int32} {w' : GS} (h : g_X9_needArgument u p0 = some (.inl r, w')) : MV l yX9_needArgument (wm yX9_needArgument cX9_needArgument 1 none) rX9_needArgument D [(cI, .int), (cZ, .boolean)] (wC cI cZ ad u) (wC cI cZ ad w') [.int p0] := by
  intro sz
  refine Met.ofW (cc := cX9_needArgument) (maxL := 1) (ret := none) (by decide) rfl ?_
  intro p e s m args below meth c s₁ B hml hv
  obtain ⟨rfl, hsz, hP, hK, hD0, hZ⟩ := hv
  have hx := B.exec
  have hb := B.bytes
  have hr := B.returns
  have hts : ∀ w ∈ Wall, w.before _ s = true := fun w hw => atoms_spec (ws := wm yX9_needArgument cX9_needArgument 1 none) B.pre w (List.mem_cons_of_mem _ hw)
  have hown : s.vm.findClass RX9 = some m.cls := findClass_of_methodNamed B.named
  have hlocks := B.notSynchronized
  subst hsz
  have hD := hD0.self (sz := s.heap.size)
  generalize hAe : va_A (wC cI cZ ad u) s.heap.size = A at hD hZ ⊢
  have hA : ∀ q : Nat, s.heap.size ≤ q → A q := fun q h => by rw [← hAe]; exact Or.inr h
  have hS : va_S A s.heap s.heap [] := va_S.rf
  have hl := lv_entry ([.int p0]) (n := 1) (Nat.le_of_ble_eq_true rfl)
  rw [lg_entry_eq]
  generalize (lg_sl ([.int p0]) ++ List.replicate (1 - (lg_sl ([.int p0])).length) Slot.unset).toArray = ls at hl ⊢
  replace hl : lv_has ls 1 [(0, .int p0)] := hl
  refine w_gen (fun Q hQ => ?_)
  refine lv_iload_n hx hb dX9_needArgument_0 rfl (lv_at hl 0 rfl) ?_
  refine lv_if_ne (tgt := 15) hx hb dX9_needArgument_1 (by decide) (fun c1 => ?_) (fun c1 => ?_)
  · replace h := gx_f c1 h
    cases h
    exact cc_vret hx hb hr hQ hK hP hD hS dX9_needArgument_15 hlocks
  · replace h := gx_t c1 h
    cases h

def rX5_isKept : Room := { frames := 1, cells := 0, slots := 0, locals := 22 }
set_option maxHeartbeats 4000000 in
set_option maxRecDepth 100000 in
theorem k_X5_isKept (l : Launch) (D : va_G) (cI cZ : ClassId) (ad : Nat → Nat) (u : GS) (p0 : Int32) (p1 : Int32) {r : Int32} (h : g_X5_isKept p0 p1 = some r) : MI l yX5_isKept (wm yX5_isKept cX5_isKept 2 (some .boolean)) rX5_isKept D [(cI, .int), (cZ, .boolean)] (wC cI cZ ad u) (wC cI cZ ad u) [.int p0, .int p1] r := by
  intro sz
  refine Met.ofW (cc := cX5_isKept) (maxL := 2) (ret := (some .boolean)) (by decide) rfl ?_
  intro p e s m args below meth c s₁ B hml hv
  obtain ⟨rfl, hsz, hP, hK, hD0, hZ⟩ := hv
  have hx := B.exec
  have hb := B.bytes
  have hr := B.returns
  have hts : ∀ w ∈ Wall, w.before _ s = true := fun w hw => atoms_spec (ws := wm yX5_isKept cX5_isKept 2 (some .boolean)) B.pre w (List.mem_cons_of_mem _ hw)
  have hown : s.vm.findClass RX5 = some m.cls := findClass_of_methodNamed B.named
  have hlocks := B.notSynchronized
  subst hsz
  have hD := hD0.self (sz := s.heap.size)
  generalize hAe : va_A (wC cI cZ ad u) s.heap.size = A at hD hZ ⊢
  have hA : ∀ q : Nat, s.heap.size ≤ q → A q := fun q h => by rw [← hAe]; exact Or.inr h
  have hS : va_S A s.heap s.heap [] := va_S.rf
  have hl := lv_entry ([.int p0, .int p1]) (n := 2) (Nat.le_of_ble_eq_true rfl)
  rw [lg_entry_eq]
  generalize (lg_sl ([.int p0, .int p1]) ++ List.replicate (2 - (lg_sl ([.int p0, .int p1])).length) Slot.unset).toArray = ls at hl ⊢
  replace hl : lv_has ls 2 [(0, .int p0), (1, .int p1)] := hl
  refine w_gen (fun Q hQ => ?_)
  refine lv_iload_n hx hb dX5_isKept_0 rfl (lv_at hl 0 rfl) ?_
  refine lv_iload_n hx hb dX5_isKept_1 rfl (lv_at hl 1 rfl) ?_
  refine lv_bipush (v := 60) hx hb dX5_isKept_2 (by decide) ?_
  refine lv_isub hx hb dX5_isKept_4 ?_
  refine lv_iconst (v := 1) hx hb dX5_isKept_5 (by decide) ?_
  refine lv_iadd hx hb dX5_isKept_6 ?_
  refine lv_iload_n hx hb dX5_isKept_7 rfl (lv_at hl 1 rfl) ?_
  obtain ⟨y1, hc2, h⟩ := gx_bind h
  refine cc_iSN (As := [.int p0, .int ((p1 - (60 : Int32)) + (1 : Int32)), .int p1]) (rest := []) ⟨hx, hb, hml, hown, hts⟩ (k_X9_isWithin l D cI cZ ad u p0 ((p1 - (60 : Int32)) + (1 : Int32)) p1 hc2) ⟨va_cnB 3 hts (gwM mw_244) rfl rfl rfl (hZ.1 ("RedcrossGantry$Proofs", 15, yX9_isWithin) (by decide +kernel)) (hts _ mw_19) (by decide +kernel) ⟨Nat.le_of_ble_eq_true rfl, Nat.le_of_ble_eq_true rfl⟩, hts _ mw_243, trivial⟩ hK hP hD hS hA hZ rfl hl.1 rfl (Nat.le_of_ble_eq_true rfl) dX5_isKept_8 ⟨Nat.zero_le _, Nat.zero_le _⟩ (fun H locs hP hD hS => ?_)
  obtain ⟨bo, h⟩ := gx_bo h
  cases h
  exact cc_ret hx hb hr bo hQ hK hP hD hS rfl dX5_isKept_11 hlocks

def rX9_needState : Room := { frames := 0, cells := 0, slots := 0, locals := 0 }
set_option maxHeartbeats 4000000 in
set_option maxRecDepth 100000 in
theorem k_X9_needState (l : Launch) (D : va_G) (cI cZ : ClassId) (ad : Nat → Nat) (u : GS) (p0 : Int32) {r : Int32} {w' : GS} (h : g_X9_needState u p0 = some (.inl r, w')) : MV l yX9_needState (wm yX9_needState cX9_needState 1 none) rX9_needState D [(cI, .int), (cZ, .boolean)] (wC cI cZ ad u) (wC cI cZ ad w') [.int p0] := by
  intro sz
  refine Met.ofW (cc := cX9_needState) (maxL := 1) (ret := none) (by decide) rfl ?_
  intro p e s m args below meth c s₁ B hml hv
  obtain ⟨rfl, hsz, hP, hK, hD0, hZ⟩ := hv
  have hx := B.exec
  have hb := B.bytes
  have hr := B.returns
  have hts : ∀ w ∈ Wall, w.before _ s = true := fun w hw => atoms_spec (ws := wm yX9_needState cX9_needState 1 none) B.pre w (List.mem_cons_of_mem _ hw)
  have hown : s.vm.findClass RX9 = some m.cls := findClass_of_methodNamed B.named
  have hlocks := B.notSynchronized
  subst hsz
  have hD := hD0.self (sz := s.heap.size)
  generalize hAe : va_A (wC cI cZ ad u) s.heap.size = A at hD hZ ⊢
  have hA : ∀ q : Nat, s.heap.size ≤ q → A q := fun q h => by rw [← hAe]; exact Or.inr h
  have hS : va_S A s.heap s.heap [] := va_S.rf
  have hl := lv_entry ([.int p0]) (n := 1) (Nat.le_of_ble_eq_true rfl)
  rw [lg_entry_eq]
  generalize (lg_sl ([.int p0]) ++ List.replicate (1 - (lg_sl ([.int p0])).length) Slot.unset).toArray = ls at hl ⊢
  replace hl : lv_has ls 1 [(0, .int p0)] := hl
  refine w_gen (fun Q hQ => ?_)
  refine lv_iload_n hx hb dX9_needState_0 rfl (lv_at hl 0 rfl) ?_
  refine lv_if_ne (tgt := 15) hx hb dX9_needState_1 (by decide) (fun c1 => ?_) (fun c1 => ?_)
  · replace h := gx_f c1 h
    cases h
    exact cc_vret hx hb hr hQ hK hP hD hS dX9_needState_15 hlocks
  · replace h := gx_t c1 h
    cases h

def rx_X9_needState : Room := { frames := 6, cells := 1, slots := 6, locals := 90 }
set_option maxHeartbeats 4000000 in
set_option maxRecDepth 100000 in
theorem kx_X9_needState (l : Launch) (hl0 : l.stackTraces = false) (D : va_G) (cI cZ : ClassId) (ad : Nat → Nat) (u : GS) (p0 : Int32) {E : String} {w' : GS} (h : g_X9_needState u p0 = some (.inr E, w')) : XV l yX9_needState (wm yX9_needState cX9_needState 1 none) rx_X9_needState D [(cI, .int), (cZ, .boolean)] (wC cI cZ ad u) (wC cI cZ ad w') [.int p0] E := by
  intro sz
  refine vx_ofW (cc := cX9_needState) (maxL := 1) (ret := none) (by decide) rfl ?_
  intro p e s m args below meth c s₁ B hml hout hv
  obtain ⟨rfl, hsz, hP, hK, hD0, hZ⟩ := hv
  have hx := B.exec
  have hb := B.bytes
  have hts : ∀ w ∈ Wall, w.before _ s = true := fun w hw => atoms_spec (ws := wm yX9_needState cX9_needState 1 none) B.pre w (List.mem_cons_of_mem _ hw)
  have hown : s.vm.findClass RX9 = some m.cls := findClass_of_methodNamed B.named
  have hlocks := B.notSynchronized
  subst hsz
  have hD := hD0.self (sz := s.heap.size)
  generalize hAe : va_A (wC cI cZ ad u) s.heap.size = A at hD hZ
  have hA : ∀ q : Nat, s.heap.size ≤ q → A q := fun q h => by rw [← hAe]; exact Or.inr h
  have hS : va_S A s.heap s.heap [] := va_S.rf
  have hl := lv_entry ([.int p0]) (n := 1) (Nat.le_of_ble_eq_true rfl)
  rw [lg_entry_eq]
  generalize (lg_sl ([.int p0]) ++ List.replicate (1 - (lg_sl ([.int p0])).length) Slot.unset).toArray = ls at hl ⊢
  replace hl : lv_has ls 1 [(0, .int p0)] := hl
  refine w_gen (fun Q hQ => ?_)
  refine lv_iload_n hx hb dX9_needState_0 rfl (lv_at hl 0 rfl) ?_
  refine lv_if_ne (tgt := 15) hx hb dX9_needState_1 (by decide) (fun c1 => ?_) (fun c1 => ?_)
  · replace h := gx_f c1 h
    cases h
  · replace h := gx_t c1 h
    cases h
    obtain ⟨sa, hstr⟩ := hZ.2.2.2.2.2.2.2.1
    exact cX_throw (names := ["java/lang/RuntimeException", "java/lang/Exception"]) hx hb hl0 hown (by decide +kernel) (by decide +kernel) (hts _ mw_458) (hts _ mw_35) hstr (fun w h => hts w (at_ise w h)) (by decide +kernel) hZ.2.2.2.2.2.2.2.2 (by decide +kernel) (by decide +kernel) hAe hZ.2.2.2.2.1 hQ hout hlocks hK hP hD hS (hl.1.trans hml.symm) dX9_needState_4 dX9_needState_7 dX9_needState_8 dX9_needState_11 dX9_needState_14 (Nat.le_of_ble_eq_true rfl) (Nat.le_of_ble_eq_true rfl) (Nat.le_of_ble_eq_true rfl) (Nat.le_of_ble_eq_true rfl)

def rJ9_floorMod_7cf53 : Room := { frames := 0, cells := 0, slots := 0, locals := 0 }
set_option maxHeartbeats 4000000 in
set_option maxRecDepth 100000 in
theorem k_J9_floorMod_7cf53 (l : Launch) (D : va_G) (cI cZ : ClassId) (ad : Nat → Nat) (u : GS) (p0 : Int32) (p1 : Int32) {r : Int32} (h : g_J9_floorMod_7cf53 p0 p1 = some r) : MI l yJ9_floorMod_7cf53 (wm yJ9_floorMod_7cf53 cJ9_floorMod_7cf53 3 (some .int)) rJ9_floorMod_7cf53 D [(cI, .int), (cZ, .boolean)] (wC cI cZ ad u) (wC cI cZ ad u) [.int p0, .int p1] r := by
  intro sz
  refine cc_ofWF (cc := cJ9_floorMod_7cf53) (maxL := 3) (ret := (some .int)) (by decide +kernel) rfl ?_
  intro p e s m args below meth c s₁ B hml hv
  obtain ⟨rfl, hsz, hP, hK, hD0, hZ⟩ := hv
  have hx := B.exec
  have hb := B.bytes
  have hr := B.returns
  have hts : ∀ w ∈ Wall, w.before _ s = true := fun w hw => atoms_spec (ws := wm yJ9_floorMod_7cf53 cJ9_floorMod_7cf53 3 (some .int)) B.pre w (List.mem_cons_of_mem _ hw)
  have hown : s.vm.findClass RJ9 = some m.cls := findClass_of_methodNamed B.named
  have hlocks := B.notSynchronized
  subst hsz
  have hD := hD0.self (sz := s.heap.size)
  generalize hAe : va_A (wC cI cZ ad u) s.heap.size = A at hD hZ ⊢
  have hA : ∀ q : Nat, s.heap.size ≤ q → A q := fun q h => by rw [← hAe]; exact Or.inr h
  have hS : va_S A s.heap s.heap [] := va_S.rf
  have hl := lv_entry ([.int p0, .int p1]) (n := 3) (Nat.le_of_ble_eq_true rfl)
  rw [lg_entry_eq]
  generalize (lg_sl ([.int p0, .int p1]) ++ List.replicate (3 - (lg_sl ([.int p0, .int p1])).length) Slot.unset).toArray = ls at hl ⊢
  replace hl : lv_has ls 3 [(0, .int p0), (1, .int p1)] := hl
  refine w_gen (fun Q hQ => ?_)
  refine lv_iload_n hx hb dJ9_floorMod_7cf53_0 rfl (lv_at hl 0 rfl) ?_
  refine lv_iload_n hx hb dJ9_floorMod_7cf53_1 rfl (lv_at hl 1 rfl) ?_
  obtain ⟨n1, h⟩ := gx_nz h
  refine lv_irem hx hb dJ9_floorMod_7cf53_2 n1 ?_
  obtain ⟨v2, ev2, h⟩ := gx_let h
  refine lv_topn ev2 ?_
  refine lv_istore_n (lv' := [(2, .int v2), (0, .int p0), (1, .int p1)]) hx hb dJ9_floorMod_7cf53_3 rfl hl (by decide) rfl (fun ls hl => ?_)
  refine lv_iload_n hx hb dJ9_floorMod_7cf53_4 rfl (lv_at hl 1 rfl) ?_
  refine lv_iload_n hx hb dJ9_floorMod_7cf53_5 rfl (lv_at hl 2 rfl) ?_
  refine lv_ixor hx hb dJ9_floorMod_7cf53_6 ?_
  refine lv_if_ge (tgt := 18) hx hb dJ9_floorMod_7cf53_7 (by decide) (fun c3 => ?_) (fun c3 => ?_)
  · replace h := gx_t c3 h
    refine lv_iload_n hx hb dJ9_floorMod_7cf53_18 rfl (lv_at hl 0 rfl) ?_
    cases h
    exact cc_ret hx hb hr rfl hQ hK hP hD hS rfl dJ9_floorMod_7cf53_19 hlocks
  · replace h := gx_f c3 h
    refine lv_iload_n hx hb dJ9_floorMod_7cf53_10 rfl (lv_at hl 0 rfl) ?_
    refine lv_if_eq (tgt := 18) hx hb dJ9_floorMod_7cf53_11 (by decide) (fun c4 => ?_) (fun c4 => ?_)
    · replace h := gx_t c4 h
      refine lv_iload_n hx hb dJ9_floorMod_7cf53_18 rfl (lv_at hl 0 rfl) ?_
      cases h
      exact cc_ret hx hb hr rfl hQ hK hP hD hS rfl dJ9_floorMod_7cf53_19 hlocks
    · replace h := gx_f c4 h
      refine lv_iload_n hx hb dJ9_floorMod_7cf53_14 rfl (lv_at hl 0 rfl) ?_
      refine lv_iload_n hx hb dJ9_floorMod_7cf53_15 rfl (lv_at hl 2 rfl) ?_
      refine lv_iadd hx hb dJ9_floorMod_7cf53_16 ?_
      cases h
      exact cc_ret hx hb hr rfl hQ hK hP hD hS rfl dJ9_floorMod_7cf53_17 hlocks

def rX5_slotOf : Room := { frames := 1, cells := 0, slots := 0, locals := 22 }
set_option maxHeartbeats 4000000 in
set_option maxRecDepth 100000 in
theorem k_X5_slotOf (l : Launch) (D : va_G) (cI cZ : ClassId) (ad : Nat → Nat) (u : GS) (p0 : Int32) (p1 : Int32) {r : Int32} (h : g_X5_slotOf p0 p1 = some r) : MI l yX5_slotOf (wm yX5_slotOf cX5_slotOf 2 (some .int)) rX5_slotOf D [(cI, .int), (cZ, .boolean)] (wC cI cZ ad u) (wC cI cZ ad u) [.int p0, .int p1] r := by
  intro sz
  refine Met.ofW (cc := cX5_slotOf) (maxL := 2) (ret := (some .int)) (by decide) rfl ?_
  intro p e s m args below meth c s₁ B hml hv
  obtain ⟨rfl, hsz, hP, hK, hD0, hZ⟩ := hv
  have hx := B.exec
  have hb := B.bytes
  have hr := B.returns
  have hts : ∀ w ∈ Wall, w.before _ s = true := fun w hw => atoms_spec (ws := wm yX5_slotOf cX5_slotOf 2 (some .int)) B.pre w (List.mem_cons_of_mem _ hw)
  have hown : s.vm.findClass RX5 = some m.cls := findClass_of_methodNamed B.named
  have hlocks := B.notSynchronized
  subst hsz
  have hD := hD0.self (sz := s.heap.size)
  generalize hAe : va_A (wC cI cZ ad u) s.heap.size = A at hD hZ ⊢
  have hA : ∀ q : Nat, s.heap.size ≤ q → A q := fun q h => by rw [← hAe]; exact Or.inr h
  have hS : va_S A s.heap s.heap [] := va_S.rf
  have hl := lv_entry ([.int p0, .int p1]) (n := 2) (Nat.le_of_ble_eq_true rfl)
  rw [lg_entry_eq]
  generalize (lg_sl ([.int p0, .int p1]) ++ List.replicate (2 - (lg_sl ([.int p0, .int p1])).length) Slot.unset).toArray = ls at hl ⊢
  replace hl : lv_has ls 2 [(0, .int p0), (1, .int p1)] := hl
  refine w_gen (fun Q hQ => ?_)
  refine lv_iload_n hx hb dX5_slotOf_0 rfl (lv_at hl 0 rfl) ?_
  refine lv_bipush (v := 60) hx hb dX5_slotOf_1 (by decide) ?_
  obtain ⟨y1, hc2, h⟩ := gx_bind h
  refine cc_iS (As := [.int p0, .int (60 : Int32)]) (rest := []) ⟨hx, hb, hml, hown, hts⟩ (k_J9_floorMod_7cf53 l D cI cZ ad u p0 (60 : Int32) hc2) (va_cwS 2 hts (gwS mw_271 mw_272 mw_29 mw_273) rfl rfl rfl (by decide +kernel) ⟨Nat.le_of_ble_eq_true rfl, Nat.le_of_ble_eq_true rfl⟩) hK hP hD hS hA hZ rfl hl.1 rfl (Nat.le_of_ble_eq_true rfl) dX5_slotOf_3 ⟨Nat.zero_le _, Nat.zero_le _⟩ (fun H locs hP hD hS => ?_)
  refine lv_bipush (v := 12) hx hb dX5_slotOf_6 (by decide) ?_
  refine lv_imul hx hb dX5_slotOf_8 ?_
  refine lv_iload_n hx hb dX5_slotOf_9 rfl (lv_at hl 1 rfl) ?_
  refine lv_iadd hx hb dX5_slotOf_10 ?_
  cases h
  exact cc_ret hx hb hr rfl hQ hK hP hD hS rfl dX5_slotOf_11 hlocks

def rX5_laneSign : Room := { frames := 2, cells := 0, slots := 0, locals := 43 }
set_option maxHeartbeats 4000000 in
set_option maxRecDepth 100000 in
theorem k_X5_laneSign (l : Launch) (D : va_G) (cI cZ : ClassId) (ad : Nat → Nat) (u : GS) (p0 : Int32) (p1 : Int32) (p2 : Int32) {r : Int32} (h : g_X5_laneSign u p0 p1 p2 = some r) : MI l yX5_laneSign (wm yX5_laneSign cX5_laneSign 4 (some .int)) rX5_laneSign D [(cI, .int), (cZ, .boolean)] (wC cI cZ ad u) (wC cI cZ ad u) [.ref (ad 9), .int p0, .int p1, .int p2] r := by
  intro sz
  refine Met.ofW (cc := cX5_laneSign) (maxL := 4) (ret := (some .int)) (by decide) rfl ?_
  intro p e s m args below meth c s₁ B hml hv
  obtain ⟨rfl, hsz, hP, hK, hD0, hZ⟩ := hv
  have hx := B.exec
  have hb := B.bytes
  have hr := B.returns
  have hts : ∀ w ∈ Wall, w.before _ s = true := fun w hw => atoms_spec (ws := wm yX5_laneSign cX5_laneSign 4 (some .int)) B.pre w (List.mem_cons_of_mem _ hw)
  have hown : s.vm.findClass RX5 = some m.cls := findClass_of_methodNamed B.named
  have hlocks := B.notSynchronized
  subst hsz
  have hD := hD0.self (sz := s.heap.size)
  generalize hAe : va_A (wC cI cZ ad u) s.heap.size = A at hD hZ ⊢
  have hA : ∀ q : Nat, s.heap.size ≤ q → A q := fun q h => by rw [← hAe]; exact Or.inr h
  have hS : va_S A s.heap s.heap [] := va_S.rf
  have hf11 := hts _ mw_223
  have hl := lv_entry ([.ref (ad 9), .int p0, .int p1, .int p2]) (n := 4) (Nat.le_of_ble_eq_true rfl)
  rw [lg_entry_eq]
  generalize (lg_sl ([.ref (ad 9), .int p0, .int p1, .int p2]) ++ List.replicate (4 - (lg_sl ([.ref (ad 9), .int p0, .int p1, .int p2])).length) Slot.unset).toArray = ls at hl ⊢
  replace hl : lv_has ls 4 [(0, .ref (ad 9)), (1, .int p0), (2, .int p1), (3, .int p2)] := hl
  refine w_gen (fun Q hQ => ?_)
  refine lv_aload_n hx hb dX5_laneSign_0 rfl (lv_at hl 0 rfl) ?_
  refine va_get (D := D) (ci := 5) (v := .ref (ad 34)) (C := RX5) (T := TX5) (N := 1) hx hb hts iX5 hown hK hP 9 rfl rfl 0 (by decide) hf11 (fun _ h9 => h9) rfl dX5_laneSign_1 ?_
  refine lv_iload_n hx hb dX5_laneSign_4 rfl (lv_at hl 1 rfl) ?_
  refine lv_iload_n hx hb dX5_laneSign_5 rfl (lv_at hl 2 rfl) ?_
  obtain ⟨y1, hc2, h⟩ := gx_bind h
  refine cc_iS (As := [.int p0, .int p1]) (rest := [.ref (ad 34)]) ⟨hx, hb, hml, hown, hts⟩ (k_X5_slotOf l D cI cZ ad u p0 p1 hc2) (va_cwS 2 hts (gwS mw_268 mw_269 mw_28 mw_270) rfl rfl rfl (by decide +kernel) ⟨Nat.le_of_ble_eq_true rfl, Nat.le_of_ble_eq_true rfl⟩) hK hP hD hS hA hZ rfl hl.1 rfl (Nat.le_of_ble_eq_true rfl) dX5_laneSign_6 ⟨Nat.zero_le _, Nat.zero_le _⟩ (fun H locs hP hD hS => ?_)
  obtain ⟨b3, h⟩ := gx_in h
  refine va_iald (D := D) hx hb hK hP 34 0 rfl rfl b3 dX5_laneSign_9 ?_
  refine lv_iconst (v := 2) hx hb dX5_laneSign_10 (by decide) ?_
  refine lv_iload_n hx hb dX5_laneSign_11 rfl (lv_at hl 3 rfl) ?_
  refine lv_imul hx hb dX5_laneSign_12 ?_
  refine lv_ishr hx hb dX5_laneSign_13 ?_
  refine lv_iconst (v := 3) hx hb dX5_laneSign_14 (by decide) ?_
  refine lv_iand hx hb dX5_laneSign_15 ?_
  cases h
  exact cc_ret hx hb hr rfl hQ hK hP hD hS rfl dX5_laneSign_16 hlocks

def rX5_speedSign : Room := { frames := 2, cells := 0, slots := 0, locals := 43 }
set_option maxHeartbeats 4000000 in
set_option maxRecDepth 100000 in
theorem k_X5_speedSign (l : Launch) (D : va_G) (cI cZ : ClassId) (ad : Nat → Nat) (u : GS) (p0 : Int32) (p1 : Int32) {r : Int32} (h : g_X5_speedSign u p0 p1 = some r) : MI l yX5_speedSign (wm yX5_speedSign cX5_speedSign 3 (some .int)) rX5_speedSign D [(cI, .int), (cZ, .boolean)] (wC cI cZ ad u) (wC cI cZ ad u) [.ref (ad 9), .int p0, .int p1] r := by
  intro sz
  refine Met.ofW (cc := cX5_speedSign) (maxL := 3) (ret := (some .int)) (by decide) rfl ?_
  intro p e s m args below meth c s₁ B hml hv
  obtain ⟨rfl, hsz, hP, hK, hD0, hZ⟩ := hv
  have hx := B.exec
  have hb := B.bytes
  have hr := B.returns
  have hts : ∀ w ∈ Wall, w.before _ s = true := fun w hw => atoms_spec (ws := wm yX5_speedSign cX5_speedSign 3 (some .int)) B.pre w (List.mem_cons_of_mem _ hw)
  have hown : s.vm.findClass RX5 = some m.cls := findClass_of_methodNamed B.named
  have hlocks := B.notSynchronized
  subst hsz
  have hD := hD0.self (sz := s.heap.size)
  generalize hAe : va_A (wC cI cZ ad u) s.heap.size = A at hD hZ ⊢
  have hA : ∀ q : Nat, s.heap.size ≤ q → A q := fun q h => by rw [← hAe]; exact Or.inr h
  have hS : va_S A s.heap s.heap [] := va_S.rf
  have hf11 := hts _ mw_223
  have hl := lv_entry ([.ref (ad 9), .int p0, .int p1]) (n := 3) (Nat.le_of_ble_eq_true rfl)
  rw [lg_entry_eq]
  generalize (lg_sl ([.ref (ad 9), .int p0, .int p1]) ++ List.replicate (3 - (lg_sl ([.ref (ad 9), .int p0, .int p1])).length) Slot.unset).toArray = ls at hl ⊢
  replace hl : lv_has ls 3 [(0, .ref (ad 9)), (1, .int p0), (2, .int p1)] := hl
  refine w_gen (fun Q hQ => ?_)
  refine lv_aload_n hx hb dX5_speedSign_0 rfl (lv_at hl 0 rfl) ?_
  refine va_get (D := D) (ci := 5) (v := .ref (ad 34)) (C := RX5) (T := TX5) (N := 1) hx hb hts iX5 hown hK hP 9 rfl rfl 0 (by decide) hf11 (fun _ h9 => h9) rfl dX5_speedSign_1 ?_
  refine lv_iload_n hx hb dX5_speedSign_4 rfl (lv_at hl 1 rfl) ?_
  refine lv_iload_n hx hb dX5_speedSign_5 rfl (lv_at hl 2 rfl) ?_
  obtain ⟨y1, hc2, h⟩ := gx_bind h
  refine cc_iS (As := [.int p0, .int p1]) (rest := [.ref (ad 34)]) ⟨hx, hb, hml, hown, hts⟩ (k_X5_slotOf l D cI cZ ad u p0 p1 hc2) (va_cwS 2 hts (gwS mw_268 mw_269 mw_28 mw_270) rfl rfl rfl (by decide +kernel) ⟨Nat.le_of_ble_eq_true rfl, Nat.le_of_ble_eq_true rfl⟩) hK hP hD hS hA hZ rfl hl.1 rfl (Nat.le_of_ble_eq_true rfl) dX5_speedSign_6 ⟨Nat.zero_le _, Nat.zero_le _⟩ (fun H locs hP hD hS => ?_)
  obtain ⟨b3, h⟩ := gx_in h
  refine va_iald (D := D) hx hb hK hP 34 0 rfl rfl b3 dX5_speedSign_9 ?_
  refine lv_bipush (v := 8) hx hb dX5_speedSign_10 (by decide) ?_
  refine lv_ishr hx hb dX5_speedSign_12 ?_
  cases h
  exact cc_ret hx hb hr rfl hQ hK hP hD hS rfl dX5_speedSign_13 hlocks

def rX9_proof : Room := { frames := 3, cells := 0, slots := 0, locals := 66 }
set_option maxHeartbeats 4000000 in
set_option maxRecDepth 100000 in
theorem k_X9_proof (l : Launch) (D : va_G) (cI cZ : ClassId) (ad : Nat → Nat) (u : GS) (p0 : Int32) (p1 : Int32) (p2 : Int32) {r : Int32} {w' : GS} (h : g_X9_proof u p0 p1 p2 = some (.inl r, w')) : MI l yX9_proof (wm yX9_proof cX9_proof 4 (some .int)) rX9_proof D [(cI, .int), (cZ, .boolean)] (wC cI cZ ad u) (wC cI cZ ad w') [.ref (ad 0), .int p0, .int p1, .int p2] r := by
  intro sz
  refine Met.ofW (cc := cX9_proof) (maxL := 4) (ret := (some .int)) (by decide) rfl ?_
  intro p e s m args below meth c s₁ B hml hv
  obtain ⟨rfl, hsz, hP, hK, hD0, hZ⟩ := hv
  have hx := B.exec
  have hb := B.bytes
  have hr := B.returns
  have hts : ∀ w ∈ Wall, w.before _ s = true := fun w hw => atoms_spec (ws := wm yX9_proof cX9_proof 4 (some .int)) B.pre w (List.mem_cons_of_mem _ hw)
  have hown : s.vm.findClass RX9 = some m.cls := findClass_of_methodNamed B.named
  have hlocks := B.notSynchronized
  subst hsz
  have hD := hD0.self (sz := s.heap.size)
  generalize hAe : va_A (wC cI cZ ad u) s.heap.size = A at hD hZ ⊢
  have hA : ∀ q : Nat, s.heap.size ≤ q → A q := fun q h => by rw [← hAe]; exact Or.inr h
  have hS : va_S A s.heap s.heap [] := va_S.rf
  have hf7 := hts _ mw_274
  have hf72 := hts _ mw_283
  have hl := lv_entry ([.ref (ad 0), .int p0, .int p1, .int p2]) (n := 4) (Nat.le_of_ble_eq_true rfl)
  rw [lg_entry_eq]
  generalize (lg_sl ([.ref (ad 0), .int p0, .int p1, .int p2]) ++ List.replicate (4 - (lg_sl ([.ref (ad 0), .int p0, .int p1, .int p2])).length) Slot.unset).toArray = ls at hl ⊢
  replace hl : lv_has ls 4 [(0, .ref (ad 0)), (1, .int p0), (2, .int p1), (3, .int p2)] := hl
  refine w_gen (fun Q hQ => ?_)
  refine lv_iload_n hx hb dX9_proof_0 rfl (lv_at hl 2 rfl) ?_
  obtain ⟨y1, u2, hc3, h⟩ := gx_xr h
  refine cc_vS (As := [.int p1]) (rest := []) ⟨hx, hb, hml, hown, hts⟩ (k_X9_needSection l D cI cZ ad u p1 hc3) (va_cwS 1 hts (gwS mw_312 mw_313 mw_19 mw_314) rfl rfl rfl (by decide +kernel) ⟨Nat.le_of_ble_eq_true rfl, Nat.le_of_ble_eq_true rfl⟩) hK hP hD hS hA hZ rfl hl.1 rfl (Nat.le_of_ble_eq_true rfl) dX9_proof_1 ⟨Nat.zero_le _, Nat.zero_le _⟩ (fun H locs hP hD hS => ?_)
  refine lv_iload_n hx hb dX9_proof_4 rfl (lv_at hl 1 rfl) ?_
  obtain ⟨j13_4, ej13_4, h⟩ := gx_let h
  have hj13_4 : ∀ (z0_13 : Int32) (H : Heap) (locs : List Loc) (ls : Array Slot), j13_4 z0_13 = some (.inl r, w') → va_P D vwCl (wC cI cZ ad u2) H → va_D A (wC cI cZ ad u2) → va_S A s.heap H locs → lv_has ls 4 [(0, .ref (ad 0)), (1, .int p0), (2, .int p1), (3, .int p2)] → W p l e rX9_proof s m ([.ref (ad 0), .int p0, .int p1, .int p2] : List Value).toArray below meth c H locs 0 0 Q (F0 m 13 ls [.int z0_13]) := by
    intro z0_13 H locs ls h hP hD hS hl
    subst ej13_4
    obtain ⟨y5, u6, hc7, h⟩ := gx_xr h
    refine cc_vS (As := [.int z0_13]) (rest := []) ⟨hx, hb, hml, hown, hts⟩ (k_X9_needArgument l D cI cZ ad u2 z0_13 hc7) (va_cwS 1 hts (gwS mw_432 mw_433 mw_19 mw_434) rfl rfl rfl (by decide +kernel) ⟨Nat.le_of_ble_eq_true rfl, Nat.le_of_ble_eq_true rfl⟩) hK hP hD hS hA hZ rfl hl.1 rfl (Nat.le_of_ble_eq_true rfl) dX9_proof_13 ⟨Nat.zero_le _, Nat.zero_le _⟩ (fun H locs hP hD hS => ?_)
    refine lv_iload_n hx hb dX9_proof_16 rfl (lv_at hl 3 rfl) ?_
    refine lv_iconst (v := 0) hx hb dX9_proof_17 (by decide) ?_
    refine lv_iconst (v := 4) hx hb dX9_proof_18 (by decide) ?_
    obtain ⟨y8, hc9, h⟩ := gx_bind h
    refine cc_iS (As := [.int p2, .int (0 : Int32), .int (4 : Int32)]) (rest := []) ⟨hx, hb, hml, hown, hts⟩ (k_X9_isWithin l D cI cZ ad u6 p2 (0 : Int32) (4 : Int32) hc9) (va_cwS 3 hts (gwS mw_315 mw_243 mw_19 mw_244) rfl rfl rfl (by decide +kernel) ⟨Nat.le_of_ble_eq_true rfl, Nat.le_of_ble_eq_true rfl⟩) hK hP hD hS hA hZ rfl hl.1 rfl (Nat.le_of_ble_eq_true rfl) dX9_proof_19 ⟨Nat.zero_le _, Nat.zero_le _⟩ (fun H locs hP hD hS => ?_)
    obtain ⟨y10, u11, hc12, h⟩ := gx_xr h
    refine cc_vS (As := [.int y8]) (rest := []) ⟨hx, hb, hml, hown, hts⟩ (k_X9_needArgument l D cI cZ ad u6 y8 hc12) (va_cwS 1 hts (gwS mw_432 mw_433 mw_19 mw_434) rfl rfl rfl (by decide +kernel) ⟨Nat.le_of_ble_eq_true rfl, Nat.le_of_ble_eq_true rfl⟩) hK hP hD hS hA hZ rfl hl.1 rfl (Nat.le_of_ble_eq_true rfl) dX9_proof_22 ⟨Nat.zero_le _, Nat.zero_le _⟩ (fun H locs hP hD hS => ?_)
    refine lv_iload_n hx hb dX9_proof_25 rfl (lv_at hl 1 rfl) ?_
    refine lv_aload_n hx hb dX9_proof_26 rfl (lv_at hl 0 rfl) ?_
    refine va_get (D := D) (ci := 9) (v := .int (c_minute u11)) (C := RX9) (T := TX9) (N := 10) hx hb hts iX9 hown hK hP 0 rfl rfl 0 (by decide) hf7 (fun _ h9 => h9) rfl dX9_proof_27 ?_
    obtain ⟨y13, hc14, h⟩ := gx_bind h
    refine cc_iS (As := [.int p0, .int (c_minute u11)]) (rest := []) ⟨hx, hb, hml, hown, hts⟩ (k_X5_isKept l D cI cZ ad u11 p0 (c_minute u11) hc14) (va_cwS 2 hts (gwS mw_451 mw_452 mw_28 mw_453) rfl rfl rfl (by decide +kernel) ⟨Nat.le_of_ble_eq_true rfl, Nat.le_of_ble_eq_true rfl⟩) hK hP hD hS hA hZ rfl hl.1 rfl (Nat.le_of_ble_eq_true rfl) dX9_proof_30 ⟨Nat.zero_le _, Nat.zero_le _⟩ (fun H locs hP hD hS => ?_)
    obtain ⟨y15, u16, hc17, h⟩ := gx_xr h
    refine cc_vS (As := [.int y13]) (rest := []) ⟨hx, hb, hml, hown, hts⟩ (k_X9_needState l D cI cZ ad u11 y13 hc17) (va_cwS 1 hts (gwS mw_455 mw_456 mw_19 mw_457) rfl rfl rfl (by decide +kernel) ⟨Nat.le_of_ble_eq_true rfl, Nat.le_of_ble_eq_true rfl⟩) hK hP hD hS hA hZ rfl hl.1 rfl (Nat.le_of_ble_eq_true rfl) dX9_proof_33 ⟨Nat.zero_le _, Nat.zero_le _⟩ (fun H locs hP hD hS => ?_)
    refine lv_iload_n hx hb dX9_proof_36 rfl (lv_at hl 3 rfl) ?_
    refine lv_if_ne (tgt := 50) hx hb dX9_proof_37 (by decide) (fun c18 => ?_) (fun c18 => ?_)
    · replace h := gx_f c18 h
      refine lv_aload_n hx hb dX9_proof_50 rfl (lv_at hl 0 rfl) ?_
      refine va_get (D := D) (ci := 9) (v := .ref (ad 9)) (C := RX9) (T := TX9) (N := 10) hx hb hts iX9 hown hK hP 0 rfl rfl 9 (by decide) hf72 (fun _ h9 => h9) rfl dX9_proof_51 ?_
      refine lv_iload_n hx hb dX9_proof_54 rfl (lv_at hl 1 rfl) ?_
      refine lv_iload_n hx hb dX9_proof_55 rfl (lv_at hl 2 rfl) ?_
      refine lv_iload_n hx hb dX9_proof_56 rfl (lv_at hl 3 rfl) ?_
      refine lv_iconst (v := 1) hx hb dX9_proof_57 (by decide) ?_
      refine lv_isub hx hb dX9_proof_58 ?_
      obtain ⟨y19, hc20, h⟩ := gx_bind h
      refine cc_iV (As := [.int p0, .int p1, .int (p2 - (1 : Int32))]) (rest := []) ⟨hx, hb, hml, hown, hts⟩ (k_X5_laneSign l D cI cZ ad u16 p0 p1 (p2 - (1 : Int32)) hc20) (cwV 3 hts (gwV mw_478 mw_479 mw_480 mw_28 mw_481) rfl rfl rfl (by decide +kernel) ⟨Nat.le_of_ble_eq_true rfl, Nat.le_of_ble_eq_true rfl⟩) hK hP hD hS hA hZ (ci := 5) (q0 := 9) rfl rfl rfl hl.1 rfl (Nat.le_of_ble_eq_true rfl) dX9_proof_59 ⟨Nat.zero_le _, Nat.zero_le _⟩ (fun H locs hP hD hS => ?_)
      cases h
      exact cc_ret hx hb hr rfl hQ hK hP hD hS rfl dX9_proof_62 hlocks
    · replace h := gx_t c18 h
      refine lv_aload_n hx hb dX9_proof_40 rfl (lv_at hl 0 rfl) ?_
      refine va_get (D := D) (ci := 9) (v := .ref (ad 9)) (C := RX9) (T := TX9) (N := 10) hx hb hts iX9 hown hK hP 0 rfl rfl 9 (by decide) hf72 (fun _ h9 => h9) rfl dX9_proof_41 ?_
      refine lv_iload_n hx hb dX9_proof_44 rfl (lv_at hl 1 rfl) ?_
      refine lv_iload_n hx hb dX9_proof_45 rfl (lv_at hl 2 rfl) ?_
      obtain ⟨y21, hc22, h⟩ := gx_bind h
      refine cc_iV (As := [.int p0, .int p1]) (rest := []) ⟨hx, hb, hml, hown, hts⟩ (k_X5_speedSign l D cI cZ ad u16 p0 p1 hc22) (cwV 2 hts (gwV mw_474 mw_475 mw_476 mw_28 mw_477) rfl rfl rfl (by decide +kernel) ⟨Nat.le_of_ble_eq_true rfl, Nat.le_of_ble_eq_true rfl⟩) hK hP hD hS hA hZ (ci := 5) (q0 := 9) rfl rfl rfl hl.1 rfl (Nat.le_of_ble_eq_true rfl) dX9_proof_46 ⟨Nat.zero_le _, Nat.zero_le _⟩ (fun H locs hP hD hS => ?_)
      cases h
      exact cc_ret hx hb hr rfl hQ hK hP hD hS rfl dX9_proof_49 hlocks
  refine lv_if_lt (tgt := 12) hx hb dX9_proof_5 (by decide) (fun c23 => ?_) (fun c23 => ?_)
  · replace h := gx_t c23 h
    refine lv_iconst (v := 0) hx hb dX9_proof_12 (by decide) ?_
    exact hj13_4 (0 : Int32) _ _ _ h hP hD hS (lv_sub hl [0, 1, 2, 3] rfl)
  · replace h := gx_f c23 h
    refine lv_iconst (v := 1) hx hb dX9_proof_8 (by decide) ?_
    refine lv_goto (tgt := 13) hx hb dX9_proof_9 (by decide) ?_
    exact hj13_4 (1 : Int32) _ _ _ h hP hD hS (lv_sub hl [0, 1, 2, 3] rfl)

def rX9_section : Room := { frames := 4, cells := 0, slots := 0, locals := 94 }
set_option maxHeartbeats 4000000 in
set_option maxRecDepth 100000 in
theorem k_X9_section (l : Launch) (D : va_G) (cI cZ : ClassId) (ad : Nat → Nat) (u : GS) (p0 : Int32) (p1 : Int32) {r : Int32} {w' : GS} (h : g_X9_section u p0 p1 = some (.inl r, w')) : MI l yX9_section (wm yX9_section cX9_section 3 (some .int)) rX9_section D [(cI, .int), (cZ, .boolean)] (wC cI cZ ad u) (wC cI cZ ad w') [.ref (ad 0), .int p0, .int p1] r := by
  intro sz
  refine Met.ofW (cc := cX9_section) (maxL := 3) (ret := (some .int)) (by decide) rfl ?_
  intro p e s m args below meth c s₁ B hml hv
  obtain ⟨rfl, hsz, hP, hK, hD0, hZ⟩ := hv
  have hx := B.exec
  have hb := B.bytes
  have hr := B.returns
  have hts : ∀ w ∈ Wall, w.before _ s = true := fun w hw => atoms_spec (ws := wm yX9_section cX9_section 3 (some .int)) B.pre w (List.mem_cons_of_mem _ hw)
  have hown : s.vm.findClass RX9 = some m.cls := findClass_of_methodNamed B.named
  have hlocks := B.notSynchronized
  subst hsz
  have hD := hD0.self (sz := s.heap.size)
  generalize hAe : va_A (wC cI cZ ad u) s.heap.size = A at hD hZ ⊢
  have hA : ∀ q : Nat, s.heap.size ≤ q → A q := fun q h => by rw [← hAe]; exact Or.inr h
  have hS : va_S A s.heap s.heap [] := va_S.rf
  have hf16 := hts _ mw_275
  have hf23 := hts _ mw_276
  have hf30 := hts _ mw_277
  have hf80 := hts _ mw_105
  have hf145 := hts _ mw_55
  have hf149 := hts _ mw_88
  have hl := lv_entry ([.ref (ad 0), .int p0, .int p1]) (n := 3) (Nat.le_of_ble_eq_true rfl)
  rw [lg_entry_eq]
  generalize (lg_sl ([.ref (ad 0), .int p0, .int p1]) ++ List.replicate (3 - (lg_sl ([.ref (ad 0), .int p0, .int p1])).length) Slot.unset).toArray = ls at hl ⊢
  replace hl : lv_has ls 3 [(0, .ref (ad 0)), (1, .int p0), (2, .int p1)] := hl
  refine w_gen (fun Q hQ => ?_)
  refine lv_iload_n hx hb dX9_section_0 rfl (lv_at hl 1 rfl) ?_
  obtain ⟨y1, u2, hc3, h⟩ := gx_xr h
  refine cc_vS (As := [.int p0]) (rest := []) ⟨hx, hb, hml, hown, hts⟩ (k_X9_needSection l D cI cZ ad u p0 hc3) (va_cwS 1 hts (gwS mw_312 mw_313 mw_19 mw_314) rfl rfl rfl (by decide +kernel) ⟨Nat.le_of_ble_eq_true rfl, Nat.le_of_ble_eq_true rfl⟩) hK hP hD hS hA hZ rfl hl.1 rfl (Nat.le_of_ble_eq_true rfl) dX9_section_1 ⟨Nat.zero_le _, Nat.zero_le _⟩ (fun H locs hP hD hS => ?_)
  refine lv_iload_n hx hb dX9_section_4 rfl (lv_at hl 2 rfl) ?_
  refine lv_iconst (v := 0) hx hb dX9_section_5 (by decide) ?_
  refine lv_iconst (v := 5) hx hb dX9_section_6 (by decide) ?_
  obtain ⟨y4, hc5, h⟩ := gx_bind h
  refine cc_iS (As := [.int p1, .int (0 : Int32), .int (5 : Int32)]) (rest := []) ⟨hx, hb, hml, hown, hts⟩ (k_X9_isWithin l D cI cZ ad u2 p1 (0 : Int32) (5 : Int32) hc5) (va_cwS 3 hts (gwS mw_315 mw_243 mw_19 mw_244) rfl rfl rfl (by decide +kernel) ⟨Nat.le_of_ble_eq_true rfl, Nat.le_of_ble_eq_true rfl⟩) hK hP hD hS hA hZ rfl hl.1 rfl (Nat.le_of_ble_eq_true rfl) dX9_section_7 ⟨Nat.zero_le _, Nat.zero_le _⟩ (fun H locs hP hD hS => ?_)
  obtain ⟨y6, u7, hc8, h⟩ := gx_xr h
  refine cc_vS (As := [.int y4]) (rest := []) ⟨hx, hb, hml, hown, hts⟩ (k_X9_needArgument l D cI cZ ad u2 y4 hc8) (va_cwS 1 hts (gwS mw_432 mw_433 mw_19 mw_434) rfl rfl rfl (by decide +kernel) ⟨Nat.le_of_ble_eq_true rfl, Nat.le_of_ble_eq_true rfl⟩) hK hP hD hS hA hZ rfl hl.1 rfl (Nat.le_of_ble_eq_true rfl) dX9_section_10 ⟨Nat.zero_le _, Nat.zero_le _⟩ (fun H locs hP hD hS => ?_)
  refine lv_iload_n hx hb dX9_section_13 rfl (lv_at hl 2 rfl) ?_
  by_cases c14_0 : p1 = 0
  · replace h := gx_t c14_0 h
    refine lv_tableIn (tgt := 48) (off := 34) hx hb dX9_section_14 (by rw [c14_0]; decide) (by rw [c14_0]; decide) (by rw [c14_0]; decide) (by decide) ?_
    refine lv_aload_n hx hb dX9_section_48 rfl (lv_at hl 0 rfl) ?_
    refine va_get (D := D) (ci := 9) (v := .ref (ad 1)) (C := RX9) (T := TX9) (N := 10) hx hb hts iX9 hown hK hP 0 rfl rfl 1 (by decide) hf16 (fun _ h9 => h9) rfl dX9_section_49 ?_
    refine lv_iload_n hx hb dX9_section_52 rfl (lv_at hl 1 rfl) ?_
    obtain ⟨y9, hc10, h⟩ := gx_bind h
    refine cc_iV (As := [.int p0]) (rest := []) ⟨hx, hb, hml, hown, hts⟩ (k_X8_speedAt l D cI cZ ad u7 p0 hc10) (cwV 1 hts (gwV mw_629 mw_414 mw_415 mw_20 mw_416) rfl rfl rfl (by decide +kernel) ⟨Nat.le_of_ble_eq_true rfl, Nat.le_of_ble_eq_true rfl⟩) hK hP hD hS hA hZ (ci := 8) (q0 := 1) rfl rfl rfl hl.1 rfl (Nat.le_of_ble_eq_true rfl) dX9_section_53 ⟨Nat.zero_le _, Nat.zero_le _⟩ (fun H locs hP hD hS => ?_)
    cases h
    exact cc_ret hx hb hr rfl hQ hK hP hD hS rfl dX9_section_56 hlocks
  · replace h := gx_f c14_0 h
    by_cases c14_1 : p1 = 1
    · replace h := gx_t c14_1 h
      refine lv_tableIn (tgt := 57) (off := 43) hx hb dX9_section_14 (by rw [c14_1]; decide) (by rw [c14_1]; decide) (by rw [c14_1]; decide) (by decide) ?_
      refine lv_aload_n hx hb dX9_section_57 rfl (lv_at hl 0 rfl) ?_
      refine va_get (D := D) (ci := 9) (v := .ref (ad 2)) (C := RX9) (T := TX9) (N := 10) hx hb hts iX9 hown hK hP 0 rfl rfl 2 (by decide) hf23 (fun _ h9 => h9) rfl dX9_section_58 ?_
      refine lv_iload_n hx hb dX9_section_61 rfl (lv_at hl 1 rfl) ?_
      refine lv_aload_n hx hb dX9_section_62 rfl (lv_at hl 0 rfl) ?_
      refine va_get (D := D) (ci := 9) (v := .ref (ad 1)) (C := RX9) (T := TX9) (N := 10) hx hb hts iX9 hown hK hP 0 rfl rfl 1 (by decide) hf16 (fun _ h9 => h9) rfl dX9_section_63 ?_
      obtain ⟨y11, hc12, h⟩ := gx_bind h
      refine cc_iV (As := [.int p0, .ref (ad 1)]) (rest := []) ⟨hx, hb, hml, hown, hts⟩ (k_X1_beliefAt l D cI cZ ad u7 p0 hc12) (cwV 2 hts (gwV mw_408 mw_409 mw_410 mw_21 mw_411) rfl rfl rfl (by decide +kernel) ⟨Nat.le_of_ble_eq_true rfl, Nat.le_of_ble_eq_true rfl⟩) hK hP hD hS hA hZ (ci := 1) (q0 := 2) rfl rfl rfl hl.1 rfl (Nat.le_of_ble_eq_true rfl) dX9_section_66 ⟨Nat.zero_le _, Nat.zero_le _⟩ (fun H locs hP hD hS => ?_)
      cases h
      exact cc_ret hx hb hr rfl hQ hK hP hD hS rfl dX9_section_69 hlocks
    · replace h := gx_f c14_1 h
      by_cases c14_2 : p1 = 2
      · replace h := gx_t c14_2 h
        refine lv_tableIn (tgt := 70) (off := 56) hx hb dX9_section_14 (by rw [c14_2]; decide) (by rw [c14_2]; decide) (by rw [c14_2]; decide) (by decide) ?_
        refine lv_aload_n hx hb dX9_section_70 rfl (lv_at hl 0 rfl) ?_
        refine va_get (D := D) (ci := 9) (v := .ref (ad 2)) (C := RX9) (T := TX9) (N := 10) hx hb hts iX9 hown hK hP 0 rfl rfl 2 (by decide) hf23 (fun _ h9 => h9) rfl dX9_section_71 ?_
        refine lv_iload_n hx hb dX9_section_74 rfl (lv_at hl 1 rfl) ?_
        refine lv_aload_n hx hb dX9_section_75 rfl (lv_at hl 0 rfl) ?_
        refine va_get (D := D) (ci := 9) (v := .ref (ad 1)) (C := RX9) (T := TX9) (N := 10) hx hb hts iX9 hown hK hP 0 rfl rfl 1 (by decide) hf16 (fun _ h9 => h9) rfl dX9_section_76 ?_
        obtain ⟨y13, hc14, h⟩ := gx_bind h
        refine cc_iV (As := [.int p0, .ref (ad 1)]) (rest := []) ⟨hx, hb, hml, hown, hts⟩ (k_X1_guessAt l D cI cZ ad u7 p0 hc14) (cwV 2 hts (gwV mw_630 mw_422 mw_423 mw_21 mw_424) rfl rfl rfl (by decide +kernel) ⟨Nat.le_of_ble_eq_true rfl, Nat.le_of_ble_eq_true rfl⟩) hK hP hD hS hA hZ (ci := 1) (q0 := 2) rfl rfl rfl hl.1 rfl (Nat.le_of_ble_eq_true rfl) dX9_section_79 ⟨Nat.zero_le _, Nat.zero_le _⟩ (fun H locs hP hD hS => ?_)
        cases h
        exact cc_ret hx hb hr rfl hQ hK hP hD hS rfl dX9_section_82 hlocks
      · replace h := gx_f c14_2 h
        by_cases c14_3 : p1 = 3
        · replace h := gx_t c14_3 h
          refine lv_tableIn (tgt := 83) (off := 69) hx hb dX9_section_14 (by rw [c14_3]; decide) (by rw [c14_3]; decide) (by rw [c14_3]; decide) (by decide) ?_
          refine lv_aload_n hx hb dX9_section_83 rfl (lv_at hl 0 rfl) ?_
          refine va_get (D := D) (ci := 9) (v := .ref (ad 3)) (C := RX9) (T := TX9) (N := 10) hx hb hts iX9 hown hK hP 0 rfl rfl 3 (by decide) hf30 (fun _ h9 => h9) rfl dX9_section_84 ?_
          refine va_get (D := D) (ci := 7) (v := .ref (ad 16)) (C := RX7) (T := TX7) (N := 4) hx hb hts iX7 hown hK hP 3 rfl rfl 1 (by decide) hf80 (fun _ h9 => h9) rfl dX9_section_87 ?_
          refine lv_iload_n hx hb dX9_section_90 rfl (lv_at hl 1 rfl) ?_
          obtain ⟨b15, h⟩ := gx_in h
          refine va_iald (D := D) hx hb hK hP 16 0 rfl rfl b15 dX9_section_91 ?_
          cases h
          exact cc_ret hx hb hr rfl hQ hK hP hD hS rfl dX9_section_92 hlocks
        · replace h := gx_f c14_3 h
          by_cases c14_4 : p1 = 4
          · replace h := gx_t c14_4 h
            refine lv_tableIn (tgt := 93) (off := 79) hx hb dX9_section_14 (by rw [c14_4]; decide) (by rw [c14_4]; decide) (by rw [c14_4]; decide) (by decide) ?_
            refine lv_aload_n hx hb dX9_section_93 rfl (lv_at hl 0 rfl) ?_
            refine va_get (D := D) (ci := 9) (v := .ref (ad 1)) (C := RX9) (T := TX9) (N := 10) hx hb hts iX9 hown hK hP 0 rfl rfl 1 (by decide) hf16 (fun _ h9 => h9) rfl dX9_section_94 ?_
            refine va_get (D := D) (ci := 8) (v := .ref (ad 12)) (C := RX8) (T := TX8) (N := 7) hx hb hts iX8 hown hK hP 1 rfl rfl 2 (by decide) hf145 (fun _ h9 => h9) rfl dX9_section_97 ?_
            refine lv_iload_n hx hb dX9_section_100 rfl (lv_at hl 1 rfl) ?_
            obtain ⟨b16, h⟩ := gx_in h
            refine va_zald (D := D) hx hb hK hP 12 1 rfl rfl b16 dX9_section_101 ?_
            refine lv_if_eq (tgt := 109) hx hb dX9_section_102 (by decide) (fun c17 => ?_) (fun c17 => ?_)
            · replace h := gx_t c17 h
              refine lv_iconst (v := 0) hx hb dX9_section_109 (by decide) ?_
              cases h
              exact cc_ret hx hb hr rfl hQ hK hP hD hS rfl dX9_section_110 hlocks
            · replace h := gx_f c17 h
              refine lv_iconst (v := 1) hx hb dX9_section_105 (by decide) ?_
              refine lv_goto (tgt := 110) hx hb dX9_section_106 (by decide) ?_
              cases h
              exact cc_ret hx hb hr rfl hQ hK hP hD hS rfl dX9_section_110 hlocks
          · replace h := gx_f c14_4 h
            have t14_0 := gx_sw0 (n := 0) rfl c14_0
            have t14_1 := gx_sw0 (n := 1) rfl c14_1
            have t14_2 := gx_sw0 (n := 2) rfl c14_2
            have t14_3 := gx_sw0 (n := 3) rfl c14_3
            have t14_4 := gx_sw0 (n := 4) rfl c14_4
            refine lv_tableOut (tgt := 111) hx hb dX9_section_14 (by omega) (by decide) ?_
            refine lv_aload_n hx hb dX9_section_111 rfl (lv_at hl 0 rfl) ?_
            refine va_get (D := D) (ci := 9) (v := .ref (ad 2)) (C := RX9) (T := TX9) (N := 10) hx hb hts iX9 hown hK hP 0 rfl rfl 2 (by decide) hf23 (fun _ h9 => h9) rfl dX9_section_112 ?_
            refine va_get (D := D) (ci := 1) (v := .ref (ad 13)) (C := RX1) (T := TX1) (N := 2) hx hb hts iX1 hown hK hP 2 rfl rfl 0 (by decide) hf149 (fun _ h9 => h9) rfl dX9_section_115 ?_
            refine lv_iload_n hx hb dX9_section_118 rfl (lv_at hl 1 rfl) ?_
            obtain ⟨b18, h⟩ := gx_in h
            refine va_iald (D := D) hx hb hK hP 13 0 rfl rfl b18 dX9_section_119 ?_
            cases h
            exact cc_ret hx hb hr rfl hQ hK hP hD hS rfl dX9_section_120 hlocks

def rX9_holds : Room := { frames := 3, cells := 0, slots := 0, locals := 63 }
set_option maxHeartbeats 4000000 in
set_option maxRecDepth 100000 in
theorem k_X9_holds (l : Launch) (D : va_G) (cI cZ : ClassId) (ad : Nat → Nat) (u : GS) (p0 : Int32) (p1 : Int32) {r : Int32} {w' : GS} (h : g_X9_holds u p0 p1 = some (.inl r, w')) : MI l yX9_holds (wm yX9_holds cX9_holds 3 (some .int)) rX9_holds D [(cI, .int), (cZ, .boolean)] (wC cI cZ ad u) (wC cI cZ ad w') [.ref (ad 0), .int p0, .int p1] r := by
  intro sz
  refine Met.ofW (cc := cX9_holds) (maxL := 3) (ret := (some .int)) (by decide) rfl ?_
  intro p e s m args below meth c s₁ B hml hv
  obtain ⟨rfl, hsz, hP, hK, hD0, hZ⟩ := hv
  have hx := B.exec
  have hb := B.bytes
  have hr := B.returns
  have hts : ∀ w ∈ Wall, w.before _ s = true := fun w hw => atoms_spec (ws := wm yX9_holds cX9_holds 3 (some .int)) B.pre w (List.mem_cons_of_mem _ hw)
  have hown : s.vm.findClass RX9 = some m.cls := findClass_of_methodNamed B.named
  have hlocks := B.notSynchronized
  subst hsz
  have hD := hD0.self (sz := s.heap.size)
  generalize hAe : va_A (wC cI cZ ad u) s.heap.size = A at hD hZ ⊢
  have hA : ∀ q : Nat, s.heap.size ≤ q → A q := fun q h => by rw [← hAe]; exact Or.inr h
  have hS : va_S A s.heap s.heap [] := va_S.rf
  have hf16 := hts _ mw_275
  have hf110 := hts _ mw_51
  have hl := lv_entry ([.ref (ad 0), .int p0, .int p1]) (n := 3) (Nat.le_of_ble_eq_true rfl)
  rw [lg_entry_eq]
  generalize (lg_sl ([.ref (ad 0), .int p0, .int p1]) ++ List.replicate (3 - (lg_sl ([.ref (ad 0), .int p0, .int p1])).length) Slot.unset).toArray = ls at hl ⊢
  replace hl : lv_has ls 3 [(0, .ref (ad 0)), (1, .int p0), (2, .int p1)] := hl
  refine w_gen (fun Q hQ => ?_)
  refine lv_iload_n hx hb dX9_holds_0 rfl (lv_at hl 1 rfl) ?_
  refine lv_iload_n hx hb dX9_holds_1 rfl (lv_at hl 2 rfl) ?_
  obtain ⟨y1, u2, hc3, h⟩ := gx_xr h
  refine cc_vS (As := [.int p0, .int p1]) (rest := []) ⟨hx, hb, hml, hown, hts⟩ (k_X9_needPlace l D cI cZ ad u p0 p1 hc3) (va_cwS 2 hts (gwS mw_309 mw_310 mw_19 mw_311) rfl rfl rfl (by decide +kernel) ⟨Nat.le_of_ble_eq_true rfl, Nat.le_of_ble_eq_true rfl⟩) hK hP hD hS hA hZ rfl hl.1 rfl (Nat.le_of_ble_eq_true rfl) dX9_holds_2 ⟨Nat.zero_le _, Nat.zero_le _⟩ (fun H locs hP hD hS => ?_)
  refine lv_aload_n hx hb dX9_holds_5 rfl (lv_at hl 0 rfl) ?_
  refine va_get (D := D) (ci := 9) (v := .ref (ad 1)) (C := RX9) (T := TX9) (N := 10) hx hb hts iX9 hown hK hP 0 rfl rfl 1 (by decide) hf16 (fun _ h9 => h9) rfl dX9_holds_6 ?_
  refine va_get (D := D) (ci := 8) (v := .ref (ad 10)) (C := RX8) (T := TX8) (N := 7) hx hb hts iX8 hown hK hP 1 rfl rfl 0 (by decide) hf110 (fun _ h9 => h9) rfl dX9_holds_9 ?_
  refine lv_iload_n hx hb dX9_holds_12 rfl (lv_at hl 1 rfl) ?_
  refine lv_iload_n hx hb dX9_holds_13 rfl (lv_at hl 2 rfl) ?_
  obtain ⟨y4, hc5, h⟩ := gx_bind h
  refine cc_iS (As := [.int p0, .int p1]) (rest := [.ref (ad 10)]) ⟨hx, hb, hml, hown, hts⟩ (k_X9_placeOf l D cI cZ ad u2 p0 p1 hc5) (va_cwS 2 hts (gwS mw_391 mw_236 mw_19 mw_237) rfl rfl rfl (by decide +kernel) ⟨Nat.le_of_ble_eq_true rfl, Nat.le_of_ble_eq_true rfl⟩) hK hP hD hS hA hZ rfl hl.1 rfl (Nat.le_of_ble_eq_true rfl) dX9_holds_14 ⟨Nat.zero_le _, Nat.zero_le _⟩ (fun H locs hP hD hS => ?_)
  obtain ⟨b6, h⟩ := gx_in h
  refine va_iald (D := D) hx hb hK hP 10 0 rfl rfl b6 dX9_holds_17 ?_
  cases h
  exact cc_ret hx hb hr rfl hQ hK hP hD hS rfl dX9_holds_18 hlocks

def rX8_countOnRoad : Room := { frames := 0, cells := 0, slots := 0, locals := 0 }
set_option maxHeartbeats 4000000 in
set_option maxRecDepth 100000 in
theorem k_X8_countOnRoad (l : Launch) (D : va_G) (cI cZ : ClassId) (ad : Nat → Nat) (u : GS) {r : Int32} (h : g_X8_countOnRoad u = some r) : MI l yX8_countOnRoad (wm yX8_countOnRoad cX8_countOnRoad 3 (some .int)) rX8_countOnRoad D [(cI, .int), (cZ, .boolean)] (wC cI cZ ad u) (wC cI cZ ad u) [.ref (ad 1)] r := by
  intro sz
  refine Met.ofW (cc := cX8_countOnRoad) (maxL := 3) (ret := (some .int)) (by decide) rfl ?_
  intro p e s m args below meth c s₁ B hml hv
  obtain ⟨rfl, hsz, hP, hK, hD0, hZ⟩ := hv
  have hx := B.exec
  have hb := B.bytes
  have hr := B.returns
  have hts : ∀ w ∈ Wall, w.before _ s = true := fun w hw => atoms_spec (ws := wm yX8_countOnRoad cX8_countOnRoad 3 (some .int)) B.pre w (List.mem_cons_of_mem _ hw)
  have hown : s.vm.findClass RX8 = some m.cls := findClass_of_methodNamed B.named
  have hlocks := B.notSynchronized
  subst hsz
  have hD := hD0.self (sz := s.heap.size)
  generalize hAe : va_A (wC cI cZ ad u) s.heap.size = A at hD hZ ⊢
  have hA : ∀ q : Nat, s.heap.size ≤ q → A q := fun q h => by rw [← hAe]; exact Or.inr h
  have hS : va_S A s.heap s.heap [] := va_S.rf
  have hf9 := hts _ mw_50
  have hl := lv_entry ([.ref (ad 1)]) (n := 3) (Nat.le_of_ble_eq_true rfl)
  rw [lg_entry_eq]
  generalize (lg_sl ([.ref (ad 1)]) ++ List.replicate (3 - (lg_sl ([.ref (ad 1)])).length) Slot.unset).toArray = ls at hl ⊢
  replace hl : lv_has ls 3 [(0, .ref (ad 1))] := hl
  refine w_gen (fun Q hQ => ?_)
  refine lv_iconst (v := 0) hx hb dX8_countOnRoad_0 (by decide) ?_
  refine lv_istore_n (lv' := [(1, .int (0 : Int32)), (0, .ref (ad 1))]) hx hb dX8_countOnRoad_1 rfl hl (by decide) rfl (fun ls hl => ?_)
  refine lv_iconst (v := 0) hx hb dX8_countOnRoad_2 (by decide) ?_
  refine lv_istore_n (lv' := [(2, .int (0 : Int32)), (1, .int (0 : Int32)), (0, .ref (ad 1))]) hx hb dX8_countOnRoad_3 rfl hl (by decide) rfl (fun ls hl => ?_)
  have hL4 : ∀ (k : Int32 → Option (Int32)) (hk : ∀ (x1_4 : Int32) (H : Heap) (locs : List Loc) (ls : Array Slot), k x1_4 = some r → va_P D vwCl (wC cI cZ ad u) H → va_D A (wC cI cZ ad u) → va_S A s.heap H locs → lv_has ls 3 [(1, .int x1_4)] → W p l e rX8_countOnRoad s m ([.ref (ad 1)] : List Value).toArray below meth c H locs 0 0 Q (F0 m 25 ls [])) (n : Nat) (x1_4 : Int32) (x2_4 : Int32) (H : Heap) (locs : List Loc) (ls : Array Slot), lp_X8_countOnRoad_4 u k n x1_4 x2_4 = some r → va_P D vwCl (wC cI cZ ad u) H → va_D A (wC cI cZ ad u) → va_S A s.heap H locs → lv_has ls 3 [(0, .ref (ad 1)), (1, .int x1_4), (2, .int x2_4)] → W p l e rX8_countOnRoad s m ([.ref (ad 1)] : List Value).toArray below meth c H locs 0 0 Q (F0 m 4 ls []) := by
    intro k hk n
    induction n with
    | zero =>
      intro x1_4 x2_4 H locs ls h
      rw [lp_X8_countOnRoad_4] at h
      cases h
    | succ n ih =>
      intro x1_4 x2_4 H locs ls h hP hD hS hl
      rw [lp_X8_countOnRoad_4] at h
      refine lv_iload_n hx hb dX8_countOnRoad_4 rfl (lv_at hl 2 rfl) ?_
      refine lv_bipush (v := 48) hx hb dX8_countOnRoad_5 (by decide) ?_
      refine lv_icmp_ge (tgt := 25) hx hb dX8_countOnRoad_7 (by decide) (fun c1 => ?_) (fun c1 => ?_)
      · replace h := gx_t c1 h
        exact hk x1_4 _ _ _ h hP hD hS (lv_sub hl [1] rfl)
      · replace h := gx_f c1 h
        refine lv_iload_n hx hb dX8_countOnRoad_10 rfl (lv_at hl 1 rfl) ?_
        refine lv_aload_n hx hb dX8_countOnRoad_11 rfl (lv_at hl 0 rfl) ?_
        refine va_get (D := D) (ci := 8) (v := .ref (ad 10)) (C := RX8) (T := TX8) (N := 7) hx hb hts iX8 hown hK hP 1 rfl rfl 0 (by decide) hf9 (fun _ h9 => h9) rfl dX8_countOnRoad_12 ?_
        refine lv_iload_n hx hb dX8_countOnRoad_15 rfl (lv_at hl 2 rfl) ?_
        obtain ⟨b2, h⟩ := gx_in h
        refine va_iald (D := D) hx hb hK hP 10 0 rfl rfl b2 dX8_countOnRoad_16 ?_
        refine lv_iadd hx hb dX8_countOnRoad_17 ?_
        obtain ⟨v3, ev3, h⟩ := gx_let h
        refine lv_topn ev3 ?_
        refine lv_istore_n (lv' := [(1, .int v3), (0, .ref (ad 1)), (2, .int x2_4)]) hx hb dX8_countOnRoad_18 rfl hl (by decide) rfl (fun ls hl => ?_)
        obtain ⟨v4, ev4, h⟩ := gx_let h
        refine lv_iinc (v := v4) (lv' := [(2, .int v4), (1, .int v3), (0, .ref (ad 1))]) hx hb dX8_countOnRoad_19 hl (k := 2) rfl (by rw [← ev4]; rfl) (by decide) rfl (fun ls hl => ?_)
        refine lv_goto (tgt := 4) hx hb dX8_countOnRoad_22 (by decide) ?_
        exact ih v3 v4 _ _ _ h hP hD hS (lv_sub hl [2, 1, 0] rfl)
  refine hL4 _ (fun x1_4 H locs ls h hP hD hS hl => ?_) FU (0 : Int32) (0 : Int32) _ _ _ h hP hD hS (lv_sub hl [2, 1, 0] rfl)
  refine lv_iload_n hx hb dX8_countOnRoad_25 rfl (lv_at hl 0 rfl) ?_
  cases h
  exact cc_ret hx hb hr rfl hQ hK hP hD hS rfl dX8_countOnRoad_26 hlocks

def rX9_vehicles : Room := { frames := 1, cells := 0, slots := 0, locals := 22 }
set_option maxHeartbeats 4000000 in
set_option maxRecDepth 100000 in
theorem k_X9_vehicles (l : Launch) (D : va_G) (cI cZ : ClassId) (ad : Nat → Nat) (u : GS) (p0 : Int32) {r : Int32} {w' : GS} (h : g_X9_vehicles u p0 = some (.inl r, w')) : MI l yX9_vehicles (wm yX9_vehicles cX9_vehicles 2 (some .int)) rX9_vehicles D [(cI, .int), (cZ, .boolean)] (wC cI cZ ad u) (wC cI cZ ad w') [.ref (ad 0), .int p0] r := by
  intro sz
  refine Met.ofW (cc := cX9_vehicles) (maxL := 2) (ret := (some .int)) (by decide) rfl ?_
  intro p e s m args below meth c s₁ B hml hv
  obtain ⟨rfl, hsz, hP, hK, hD0, hZ⟩ := hv
  have hx := B.exec
  have hb := B.bytes
  have hr := B.returns
  have hts : ∀ w ∈ Wall, w.before _ s = true := fun w hw => atoms_spec (ws := wm yX9_vehicles cX9_vehicles 2 (some .int)) B.pre w (List.mem_cons_of_mem _ hw)
  have hown : s.vm.findClass RX9 = some m.cls := findClass_of_methodNamed B.named
  have hlocks := B.notSynchronized
  subst hsz
  have hD := hD0.self (sz := s.heap.size)
  generalize hAe : va_A (wC cI cZ ad u) s.heap.size = A at hD hZ ⊢
  have hA : ∀ q : Nat, s.heap.size ≤ q → A q := fun q h => by rw [← hAe]; exact Or.inr h
  have hS : va_S A s.heap s.heap [] := va_S.rf
  have hf16 := hts _ mw_275
  have hf117 := hts _ mw_59
  have hf124 := hts _ mw_61
  have hf127 := hts _ mw_63
  have hl := lv_entry ([.ref (ad 0), .int p0]) (n := 2) (Nat.le_of_ble_eq_true rfl)
  rw [lg_entry_eq]
  generalize (lg_sl ([.ref (ad 0), .int p0]) ++ List.replicate (2 - (lg_sl ([.ref (ad 0), .int p0])).length) Slot.unset).toArray = ls at hl ⊢
  replace hl : lv_has ls 2 [(0, .ref (ad 0)), (1, .int p0)] := hl
  refine w_gen (fun Q hQ => ?_)
  refine lv_iload_n hx hb dX9_vehicles_0 rfl (lv_at hl 1 rfl) ?_
  refine lv_iconst (v := 0) hx hb dX9_vehicles_1 (by decide) ?_
  refine lv_iconst (v := 3) hx hb dX9_vehicles_2 (by decide) ?_
  obtain ⟨y1, hc2, h⟩ := gx_bind h
  refine cc_iS (As := [.int p0, .int (0 : Int32), .int (3 : Int32)]) (rest := []) ⟨hx, hb, hml, hown, hts⟩ (k_X9_isWithin l D cI cZ ad u p0 (0 : Int32) (3 : Int32) hc2) (va_cwS 3 hts (gwS mw_315 mw_243 mw_19 mw_244) rfl rfl rfl (by decide +kernel) ⟨Nat.le_of_ble_eq_true rfl, Nat.le_of_ble_eq_true rfl⟩) hK hP hD hS hA hZ rfl hl.1 rfl (Nat.le_of_ble_eq_true rfl) dX9_vehicles_3 ⟨Nat.zero_le _, Nat.zero_le _⟩ (fun H locs hP hD hS => ?_)
  obtain ⟨y3, u4, hc5, h⟩ := gx_xr h
  refine cc_vS (As := [.int y1]) (rest := []) ⟨hx, hb, hml, hown, hts⟩ (k_X9_needArgument l D cI cZ ad u y1 hc5) (va_cwS 1 hts (gwS mw_432 mw_433 mw_19 mw_434) rfl rfl rfl (by decide +kernel) ⟨Nat.le_of_ble_eq_true rfl, Nat.le_of_ble_eq_true rfl⟩) hK hP hD hS hA hZ rfl hl.1 rfl (Nat.le_of_ble_eq_true rfl) dX9_vehicles_6 ⟨Nat.zero_le _, Nat.zero_le _⟩ (fun H locs hP hD hS => ?_)
  refine lv_iload_n hx hb dX9_vehicles_9 rfl (lv_at hl 1 rfl) ?_
  by_cases c10_0 : p0 = 0
  · replace h := gx_t c10_0 h
    refine lv_tableIn (tgt := 36) (off := 26) hx hb dX9_vehicles_10 (by rw [c10_0]; decide) (by rw [c10_0]; decide) (by rw [c10_0]; decide) (by decide) ?_
    refine lv_aload_n hx hb dX9_vehicles_36 rfl (lv_at hl 0 rfl) ?_
    refine va_get (D := D) (ci := 9) (v := .ref (ad 1)) (C := RX9) (T := TX9) (N := 10) hx hb hts iX9 hown hK hP 0 rfl rfl 1 (by decide) hf16 (fun _ h9 => h9) rfl dX9_vehicles_37 ?_
    refine va_get (D := D) (ci := 8) (v := .int (cT_came u4)) (C := RX8) (T := TX8) (N := 7) hx hb hts iX8 hown hK hP 1 rfl rfl 4 (by decide) hf117 (fun _ h9 => h9) rfl dX9_vehicles_40 ?_
    cases h
    exact cc_ret hx hb hr rfl hQ hK hP hD hS rfl dX9_vehicles_43 hlocks
  · replace h := gx_f c10_0 h
    by_cases c10_1 : p0 = 1
    · replace h := gx_t c10_1 h
      refine lv_tableIn (tgt := 44) (off := 34) hx hb dX9_vehicles_10 (by rw [c10_1]; decide) (by rw [c10_1]; decide) (by rw [c10_1]; decide) (by decide) ?_
      refine lv_aload_n hx hb dX9_vehicles_44 rfl (lv_at hl 0 rfl) ?_
      refine va_get (D := D) (ci := 9) (v := .ref (ad 1)) (C := RX9) (T := TX9) (N := 10) hx hb hts iX9 hown hK hP 0 rfl rfl 1 (by decide) hf16 (fun _ h9 => h9) rfl dX9_vehicles_45 ?_
      obtain ⟨y6, hc7, h⟩ := gx_bind h
      refine cc_iV (As := []) (rest := []) ⟨hx, hb, hml, hown, hts⟩ (k_X8_countOnRoad l D cI cZ ad u4 hc7) (cwV 0 hts (gwV mw_693 mw_694 mw_695 mw_20 mw_696) rfl rfl rfl (by decide +kernel) ⟨Nat.le_of_ble_eq_true rfl, Nat.le_of_ble_eq_true rfl⟩) hK hP hD hS hA hZ (ci := 8) (q0 := 1) rfl rfl rfl hl.1 rfl (Nat.le_of_ble_eq_true rfl) dX9_vehicles_48 ⟨Nat.zero_le _, Nat.zero_le _⟩ (fun H locs hP hD hS => ?_)
      cases h
      exact cc_ret hx hb hr rfl hQ hK hP hD hS rfl dX9_vehicles_51 hlocks
    · replace h := gx_f c10_1 h
      by_cases c10_2 : p0 = 2
      · replace h := gx_t c10_2 h
        refine lv_tableIn (tgt := 52) (off := 42) hx hb dX9_vehicles_10 (by rw [c10_2]; decide) (by rw [c10_2]; decide) (by rw [c10_2]; decide) (by decide) ?_
        refine lv_aload_n hx hb dX9_vehicles_52 rfl (lv_at hl 0 rfl) ?_
        refine va_get (D := D) (ci := 9) (v := .ref (ad 1)) (C := RX9) (T := TX9) (N := 10) hx hb hts iX9 hown hK hP 0 rfl rfl 1 (by decide) hf16 (fun _ h9 => h9) rfl dX9_vehicles_53 ?_
        refine va_get (D := D) (ci := 8) (v := .int (cT_waiting u4)) (C := RX8) (T := TX8) (N := 7) hx hb hts iX8 hown hK hP 1 rfl rfl 5 (by decide) hf124 (fun _ h9 => h9) rfl dX9_vehicles_56 ?_
        cases h
        exact cc_ret hx hb hr rfl hQ hK hP hD hS rfl dX9_vehicles_59 hlocks
      · replace h := gx_f c10_2 h
        have t10_0 := gx_sw0 (n := 0) rfl c10_0
        have t10_1 := gx_sw0 (n := 1) rfl c10_1
        have t10_2 := gx_sw0 (n := 2) rfl c10_2
        refine lv_tableOut (tgt := 60) hx hb dX9_vehicles_10 (by omega) (by decide) ?_
        refine lv_aload_n hx hb dX9_vehicles_60 rfl (lv_at hl 0 rfl) ?_
        refine va_get (D := D) (ci := 9) (v := .ref (ad 1)) (C := RX9) (T := TX9) (N := 10) hx hb hts iX9 hown hK hP 0 rfl rfl 1 (by decide) hf16 (fun _ h9 => h9) rfl dX9_vehicles_61 ?_
        refine va_get (D := D) (ci := 8) (v := .int (cT_gone u4)) (C := RX8) (T := TX8) (N := 7) hx hb hts iX8 hown hK hP 1 rfl rfl 6 (by decide) hf127 (fun _ h9 => h9) rfl dX9_vehicles_64 ?_
        cases h
        exact cc_ret hx hb hr rfl hQ hK hP hD hS rfl dX9_vehicles_67 hlocks

def rX6_shutAll : Room := { frames := 0, cells := 0, slots := 0, locals := 0 }
set_option maxHeartbeats 4000000 in
set_option maxRecDepth 100000 in
theorem k_X6_shutAll (l : Launch) (D : va_G) (cI cZ : ClassId) (ad : Nat → Nat) (u : GS) {r : Int32} {w' : GS} (h : g_X6_shutAll u = some (r, w')) : MI l yX6_shutAll (wm yX6_shutAll cX6_shutAll 3 (some .int)) rX6_shutAll D [(cI, .int), (cZ, .boolean)] (wC cI cZ ad u) (wC cI cZ ad w') [.ref (ad 5)] r := by
  intro sz
  refine Met.ofW (cc := cX6_shutAll) (maxL := 3) (ret := (some .int)) (by decide) rfl ?_
  intro p e s m args below meth c s₁ B hml hv
  obtain ⟨rfl, hsz, hP, hK, hD0, hZ⟩ := hv
  have hx := B.exec
  have hb := B.bytes
  have hr := B.returns
  have hts : ∀ w ∈ Wall, w.before _ s = true := fun w hw => atoms_spec (ws := wm yX6_shutAll cX6_shutAll 3 (some .int)) B.pre w (List.mem_cons_of_mem _ hw)
  have hown : s.vm.findClass RX6 = some m.cls := findClass_of_methodNamed B.named
  have hlocks := B.notSynchronized
  subst hsz
  have hD := hD0.self (sz := s.heap.size)
  generalize hAe : va_A (wC cI cZ ad u) s.heap.size = A at hD hZ ⊢
  have hA : ∀ q : Nat, s.heap.size ≤ q → A q := fun q h => by rw [← hAe]; exact Or.inr h
  have hS : va_S A s.heap s.heap [] := va_S.rf
  have hf9 := hts _ mw_142
  have hl := lv_entry ([.ref (ad 5)]) (n := 3) (Nat.le_of_ble_eq_true rfl)
  rw [lg_entry_eq]
  generalize (lg_sl ([.ref (ad 5)]) ++ List.replicate (3 - (lg_sl ([.ref (ad 5)])).length) Slot.unset).toArray = ls at hl ⊢
  replace hl : lv_has ls 3 [(0, .ref (ad 5))] := hl
  refine w_gen (fun Q hQ => ?_)
  refine lv_iconst (v := 0) hx hb dX6_shutAll_0 (by decide) ?_
  refine lv_istore_n (lv' := [(1, .int (0 : Int32)), (0, .ref (ad 5))]) hx hb dX6_shutAll_1 rfl hl (by decide) rfl (fun ls hl => ?_)
  refine lv_iconst (v := 0) hx hb dX6_shutAll_2 (by decide) ?_
  refine lv_istore_n (lv' := [(2, .int (0 : Int32)), (1, .int (0 : Int32)), (0, .ref (ad 5))]) hx hb dX6_shutAll_3 rfl hl (by decide) rfl (fun ls hl => ?_)
  have hL4 : ∀ (k : Int32 → GS → Option (Int32 × GS)) (hk : ∀ (x1_4 : Int32) (w4 : GS) (H : Heap) (locs : List Loc) (ls : Array Slot), k x1_4 w4 = some (r, w') → va_P D vwCl (wC cI cZ ad w4) H → va_D A (wC cI cZ ad w4) → va_S A s.heap H locs → lv_has ls 3 [(1, .int x1_4)] → W p l e rX6_shutAll s m ([.ref (ad 5)] : List Value).toArray below meth c H locs 0 0 Q (F0 m 35 ls [])) (n : Nat) (x1_4 : Int32) (x2_4 : Int32) (w4 : GS) (H : Heap) (locs : List Loc) (ls : Array Slot), lp_X6_shutAll_4 k n x1_4 x2_4 w4 = some (r, w') → va_P D vwCl (wC cI cZ ad w4) H → va_D A (wC cI cZ ad w4) → va_S A s.heap H locs → lv_has ls 3 [(0, .ref (ad 5)), (1, .int x1_4), (2, .int x2_4)] → W p l e rX6_shutAll s m ([.ref (ad 5)] : List Value).toArray below meth c H locs 0 0 Q (F0 m 4 ls []) := by
    intro k hk n
    induction n with
    | zero =>
      intro x1_4 x2_4 w4 H locs ls h
      rw [lp_X6_shutAll_4] at h
      cases h
    | succ n ih =>
      intro x1_4 x2_4 w4 H locs ls h hP hD hS hl
      rw [lp_X6_shutAll_4] at h
      refine lv_iload_n hx hb dX6_shutAll_4 rfl (lv_at hl 2 rfl) ?_
      refine lv_bipush (v := 12) hx hb dX6_shutAll_5 (by decide) ?_
      refine lv_icmp_ge (tgt := 35) hx hb dX6_shutAll_7 (by decide) (fun c1 => ?_) (fun c1 => ?_)
      · replace h := gx_t c1 h
        exact hk x1_4 w4 _ _ _ h hP hD hS (lv_sub hl [1] rfl)
      · replace h := gx_f c1 h
        refine lv_aload_n hx hb dX6_shutAll_10 rfl (lv_at hl 0 rfl) ?_
        refine va_get (D := D) (ci := 6) (v := .ref (ad 21)) (C := RX6) (T := TX6) (N := 2) hx hb hts iX6 hown hK hP 5 rfl rfl 0 (by decide) hf9 (fun _ h9 => h9) rfl dX6_shutAll_11 ?_
        refine lv_iload_n hx hb dX6_shutAll_14 rfl (lv_at hl 2 rfl) ?_
        obtain ⟨b2, h⟩ := gx_in h
        refine va_zald (D := D) hx hb hK hP 21 1 rfl rfl b2 dX6_shutAll_15 ?_
        obtain ⟨j29_3, ej29_3, h⟩ := gx_let h
        have hj29_3 : ∀ (x1_29 : Int32) (w29 : GS) (H : Heap) (locs : List Loc) (ls : Array Slot), j29_3 x1_29 w29 = some (r, w') → va_P D vwCl (wC cI cZ ad w29) H → va_D A (wC cI cZ ad w29) → va_S A s.heap H locs → lv_has ls 3 [(0, .ref (ad 5)), (1, .int x1_29), (2, .int x2_4)] → W p l e rX6_shutAll s m ([.ref (ad 5)] : List Value).toArray below meth c H locs 0 0 Q (F0 m 29 ls []) := by
          intro x1_29 w29 H locs ls h hP hD hS hl
          subst ej29_3
          obtain ⟨v4, ev4, h⟩ := gx_let h
          refine lv_iinc (v := v4) (lv' := [(2, .int v4), (0, .ref (ad 5)), (1, .int x1_29)]) hx hb dX6_shutAll_29 hl (k := 2) rfl (by rw [← ev4]; rfl) (by decide) rfl (fun ls hl => ?_)
          refine lv_goto (tgt := 4) hx hb dX6_shutAll_32 (by decide) ?_
          exact ih x1_29 v4 w29 _ _ _ h hP hD hS (lv_sub hl [1, 2, 0] rfl)
        refine lv_if_eq (tgt := 29) hx hb dX6_shutAll_16 (by decide) (fun c5 => ?_) (fun c5 => ?_)
        · replace h := gx_t c5 h
          exact hj29_3 x1_4 w4 _ _ _ h hP hD hS (lv_sub hl [0, 1, 2] rfl)
        · replace h := gx_f c5 h
          refine lv_aload_n hx hb dX6_shutAll_19 rfl (lv_at hl 0 rfl) ?_
          refine va_get (D := D) (ci := 6) (v := .ref (ad 21)) (C := RX6) (T := TX6) (N := 2) hx hb hts iX6 hown hK hP 5 rfl rfl 0 (by decide) hf9 (fun _ h9 => h9) rfl dX6_shutAll_20 ?_
          refine lv_iload_n hx hb dX6_shutAll_23 rfl (lv_at hl 2 rfl) ?_
          refine lv_iconst (v := 0) hx hb dX6_shutAll_24 (by decide) ?_
          obtain ⟨b6, h⟩ := gx_in h
          refine va_zast (D := D) hx hb hK hP hD hS 21 1 rfl rfl b6 dX6_shutAll_25 (fun H locs hP hD hS => ?_)
          obtain ⟨u7, eu7, h⟩ := gx_let h
          replace hP : va_P D vwCl (wC cI cZ ad u7) H := by rw [← eu7]; exact hP
          replace hD : va_D A (wC cI cZ ad u7) := by rw [← eu7]; exact hD
          obtain ⟨v8, ev8, h⟩ := gx_let h
          refine lv_iinc (v := v8) (lv' := [(1, .int v8), (0, .ref (ad 5)), (2, .int x2_4)]) hx hb dX6_shutAll_26 hl (k := 1) rfl (by rw [← ev8]; rfl) (by decide) rfl (fun ls hl => ?_)
          exact hj29_3 v8 u7 _ _ _ h hP hD hS (lv_sub hl [1, 0, 2] rfl)
  refine hL4 _ (fun x1_4 w4 H locs ls h hP hD hS hl => ?_) FU (0 : Int32) (0 : Int32) u _ _ _ h hP hD hS (lv_sub hl [2, 1, 0] rfl)
  refine lv_iload_n hx hb dX6_shutAll_35 rfl (lv_at hl 0 rfl) ?_
  cases h
  exact cc_ret hx hb hr rfl hQ hK hP hD hS rfl dX6_shutAll_36 hlocks

def rX9_stop : Room := { frames := 3, cells := 0, slots := 0, locals := 63 }
set_option maxHeartbeats 4000000 in
set_option maxRecDepth 100000 in
theorem k_X9_stop (l : Launch) (D : va_G) (cI cZ : ClassId) (ad : Nat → Nat) (u : GS) (p0 : Int32) (p1 : Int32) {r : Int32} {w' : GS} (h : g_X9_stop u p0 p1 = some (.inl r, w')) : MV l yX9_stop (wm yX9_stop cX9_stop 4 none) rX9_stop D [(cI, .int), (cZ, .boolean)] (wC cI cZ ad u) (wC cI cZ ad w') [.ref (ad 0), .int p0, .int p1] := by
  intro sz
  refine Met.ofW (cc := cX9_stop) (maxL := 4) (ret := none) (by decide) rfl ?_
  intro p e s m args below meth c s₁ B hml hv
  obtain ⟨rfl, hsz, hP, hK, hD0, hZ⟩ := hv
  have hx := B.exec
  have hb := B.bytes
  have hr := B.returns
  have hts : ∀ w ∈ Wall, w.before _ s = true := fun w hw => atoms_spec (ws := wm yX9_stop cX9_stop 4 none) B.pre w (List.mem_cons_of_mem _ hw)
  have hown : s.vm.findClass RX9 = some m.cls := findClass_of_methodNamed B.named
  have hlocks := B.notSynchronized
  subst hsz
  have hD := hD0.self (sz := s.heap.size)
  generalize hAe : va_A (wC cI cZ ad u) s.heap.size = A at hD hZ ⊢
  have hA : ∀ q : Nat, s.heap.size ≤ q → A q := fun q h => by rw [← hAe]; exact Or.inr h
  have hS : va_S A s.heap s.heap [] := va_S.rf
  have hf16 := hts _ mw_275
  have hf191 := hts _ mw_53
  have hf44 := hts _ mw_279
  have hf179 := hts _ mw_144
  have hl := lv_entry ([.ref (ad 0), .int p0, .int p1]) (n := 4) (Nat.le_of_ble_eq_true rfl)
  rw [lg_entry_eq]
  generalize (lg_sl ([.ref (ad 0), .int p0, .int p1]) ++ List.replicate (4 - (lg_sl ([.ref (ad 0), .int p0, .int p1])).length) Slot.unset).toArray = ls at hl ⊢
  replace hl : lv_has ls 4 [(0, .ref (ad 0)), (1, .int p0), (2, .int p1)] := hl
  refine w_gen (fun Q hQ => ?_)
  refine lv_iload_n hx hb dX9_stop_0 rfl (lv_at hl 1 rfl) ?_
  refine lv_iload_n hx hb dX9_stop_1 rfl (lv_at hl 2 rfl) ?_
  obtain ⟨y1, u2, hc3, h⟩ := gx_xr h
  refine cc_vS (As := [.int p0, .int p1]) (rest := []) ⟨hx, hb, hml, hown, hts⟩ (k_X9_needPlace l D cI cZ ad u p0 p1 hc3) (va_cwS 2 hts (gwS mw_309 mw_310 mw_19 mw_311) rfl rfl rfl (by decide +kernel) ⟨Nat.le_of_ble_eq_true rfl, Nat.le_of_ble_eq_true rfl⟩) hK hP hD hS hA hZ rfl hl.1 rfl (Nat.le_of_ble_eq_true rfl) dX9_stop_2 ⟨Nat.zero_le _, Nat.zero_le _⟩ (fun H locs hP hD hS => ?_)
  refine lv_iload_n hx hb dX9_stop_5 rfl (lv_at hl 1 rfl) ?_
  refine lv_iload_n hx hb dX9_stop_6 rfl (lv_at hl 2 rfl) ?_
  obtain ⟨y4, hc5, h⟩ := gx_bind h
  refine cc_iS (As := [.int p0, .int p1]) (rest := []) ⟨hx, hb, hml, hown, hts⟩ (k_X9_placeOf l D cI cZ ad u2 p0 p1 hc5) (va_cwS 2 hts (gwS mw_391 mw_236 mw_19 mw_237) rfl rfl rfl (by decide +kernel) ⟨Nat.le_of_ble_eq_true rfl, Nat.le_of_ble_eq_true rfl⟩) hK hP hD hS hA hZ rfl hl.1 rfl (Nat.le_of_ble_eq_true rfl) dX9_stop_7 ⟨Nat.zero_le _, Nat.zero_le _⟩ (fun H locs hP hD hS => ?_)
  refine lv_istore_n (lv' := [(3, .int y4), (0, .ref (ad 0)), (1, .int p0), (2, .int p1)]) hx hb dX9_stop_10 rfl hl (by decide) rfl (fun ls hl => ?_)
  refine lv_aload_n hx hb dX9_stop_11 rfl (lv_at hl 1 rfl) ?_
  refine va_get (D := D) (ci := 9) (v := .ref (ad 1)) (C := RX9) (T := TX9) (N := 10) hx hb hts iX9 hown hK hP 0 rfl rfl 1 (by decide) hf16 (fun _ h9 => h9) rfl dX9_stop_12 ?_
  refine va_get (D := D) (ci := 8) (v := .ref (ad 11)) (C := RX8) (T := TX8) (N := 7) hx hb hts iX8 hown hK hP 1 rfl rfl 1 (by decide) hf191 (fun _ h9 => h9) rfl dX9_stop_15 ?_
  refine lv_iload_n hx hb dX9_stop_18 rfl (lv_at hl 0 rfl) ?_
  obtain ⟨b6, h⟩ := gx_in h
  refine va_zald (D := D) hx hb hK hP 11 1 rfl rfl b6 dX9_stop_19 ?_
  obtain ⟨j28_7, ej28_7, h⟩ := gx_let h
  have hj28_7 : ∀ (z0_28 : Int32) (H : Heap) (locs : List Loc) (ls : Array Slot), j28_7 z0_28 = some (.inl r, w') → va_P D vwCl (wC cI cZ ad u2) H → va_D A (wC cI cZ ad u2) → va_S A s.heap H locs → lv_has ls 4 [(0, .ref (ad 0)), (1, .int p0), (2, .int p1), (3, .int y4)] → W p l e rX9_stop s m ([.ref (ad 0), .int p0, .int p1] : List Value).toArray below meth c H locs 0 0 Q (F0 m 28 ls [.int z0_28]) := by
    intro z0_28 H locs ls h hP hD hS hl
    subst ej28_7
    obtain ⟨y8, u9, hc10, h⟩ := gx_xr h
    refine cc_vS (As := [.int z0_28]) (rest := []) ⟨hx, hb, hml, hown, hts⟩ (k_X9_needState l D cI cZ ad u2 z0_28 hc10) (va_cwS 1 hts (gwS mw_455 mw_456 mw_19 mw_457) rfl rfl rfl (by decide +kernel) ⟨Nat.le_of_ble_eq_true rfl, Nat.le_of_ble_eq_true rfl⟩) hK hP hD hS hA hZ rfl hl.1 rfl (Nat.le_of_ble_eq_true rfl) dX9_stop_28 ⟨Nat.zero_le _, Nat.zero_le _⟩ (fun H locs hP hD hS => ?_)
    refine lv_aload_n hx hb dX9_stop_31 rfl (lv_at hl 0 rfl) ?_
    refine va_get (D := D) (ci := 9) (v := .ref (ad 1)) (C := RX9) (T := TX9) (N := 10) hx hb hts iX9 hown hK hP 0 rfl rfl 1 (by decide) hf16 (fun _ h9 => h9) rfl dX9_stop_32 ?_
    refine va_get (D := D) (ci := 8) (v := .ref (ad 11)) (C := RX8) (T := TX8) (N := 7) hx hb hts iX8 hown hK hP 1 rfl rfl 1 (by decide) hf191 (fun _ h9 => h9) rfl dX9_stop_35 ?_
    refine lv_iload_n hx hb dX9_stop_38 rfl (lv_at hl 3 rfl) ?_
    refine lv_iconst (v := 1) hx hb dX9_stop_39 (by decide) ?_
    obtain ⟨b11, h⟩ := gx_in h
    refine va_zast (D := D) hx hb hK hP hD hS 11 1 rfl rfl b11 dX9_stop_40 (fun H locs hP hD hS => ?_)
    obtain ⟨u12, eu12, h⟩ := gx_let h
    replace hP : va_P D vwCl (wC cI cZ ad u12) H := by rw [← eu12]; exact hP
    replace hD : va_D A (wC cI cZ ad u12) := by rw [← eu12]; exact hD
    refine lv_iload_n hx hb dX9_stop_41 rfl (lv_at hl 2 rfl) ?_
    refine lv_if_ne (tgt := 65) hx hb dX9_stop_42 (by decide) (fun c13 => ?_) (fun c13 => ?_)
    · replace h := gx_f c13 h
      cases h
      exact cc_vret hx hb hr hQ hK hP hD hS dX9_stop_65 hlocks
    · replace h := gx_t c13 h
      refine lv_aload_n hx hb dX9_stop_45 rfl (lv_at hl 0 rfl) ?_
      refine va_get (D := D) (ci := 9) (v := .ref (ad 5)) (C := RX9) (T := TX9) (N := 10) hx hb hts iX9 hown hK hP 0 rfl rfl 5 (by decide) hf44 (fun _ h9 => h9) rfl dX9_stop_46 ?_
      refine va_get (D := D) (ci := 6) (v := .ref (ad 22)) (C := RX6) (T := TX6) (N := 2) hx hb hts iX6 hown hK hP 5 rfl rfl 1 (by decide) hf179 (fun _ h9 => h9) rfl dX9_stop_49 ?_
      refine lv_iload_n hx hb dX9_stop_52 rfl (lv_at hl 1 rfl) ?_
      refine lv_sipush (v := (-1000)) hx hb dX9_stop_53 (by decide) ?_
      obtain ⟨b14, h⟩ := gx_in h
      refine va_iast (D := D) hx hb hK hP hD hS 22 0 rfl rfl b14 dX9_stop_56 (fun H locs hP hD hS => ?_)
      obtain ⟨u15, eu15, h⟩ := gx_let h
      replace hP : va_P D vwCl (wC cI cZ ad u15) H := by rw [← eu15]; exact hP
      replace hD : va_D A (wC cI cZ ad u15) := by rw [← eu15]; exact hD
      refine lv_aload_n hx hb dX9_stop_57 rfl (lv_at hl 0 rfl) ?_
      refine va_get (D := D) (ci := 9) (v := .ref (ad 5)) (C := RX9) (T := TX9) (N := 10) hx hb hts iX9 hown hK hP 0 rfl rfl 5 (by decide) hf44 (fun _ h9 => h9) rfl dX9_stop_58 ?_
      obtain ⟨y16, hc17, h⟩ := gx_bind h
      refine cc_iV (As := []) (rest := []) ⟨hx, hb, hml, hown, hts⟩ (k_X6_shutAll l D cI cZ ad u15 hc17) (cwV 0 hts (gwV mw_576 mw_577 mw_578 mw_24 mw_579) rfl rfl rfl (by decide +kernel) ⟨Nat.le_of_ble_eq_true rfl, Nat.le_of_ble_eq_true rfl⟩) hK hP hD hS hA hZ (ci := 6) (q0 := 5) rfl rfl rfl hl.1 rfl (Nat.le_of_ble_eq_true rfl) dX9_stop_61 ⟨Nat.zero_le _, Nat.zero_le _⟩ (fun H locs hP hD hS => ?_)
      refine lv_pop hx hb dX9_stop_64 rfl ?_
      cases h
      exact cc_vret hx hb hr hQ hK hP hD hS dX9_stop_65 hlocks
  refine lv_if_ne (tgt := 27) hx hb dX9_stop_20 (by decide) (fun c18 => ?_) (fun c18 => ?_)
  · replace h := gx_f c18 h
    refine lv_iconst (v := 0) hx hb dX9_stop_27 (by decide) ?_
    exact hj28_7 (0 : Int32) _ _ _ h hP hD hS (lv_sub hl [1, 2, 3, 0] rfl)
  · replace h := gx_t c18 h
    refine lv_iconst (v := 1) hx hb dX9_stop_23 (by decide) ?_
    refine lv_goto (tgt := 28) hx hb dX9_stop_24 (by decide) ?_
    exact hj28_7 (1 : Int32) _ _ _ h hP hD hS (lv_sub hl [1, 2, 3, 0] rfl)

def rx_X9_stop : Room := { frames := 9, cells := 1, slots := 6, locals := 151 }
set_option maxHeartbeats 4000000 in
set_option maxRecDepth 100000 in
theorem kx_X9_stop (l : Launch) (hl0 : l.stackTraces = false) (D : va_G) (cI cZ : ClassId) (ad : Nat → Nat) (u : GS) (p0 : Int32) (p1 : Int32) {E : String} {w' : GS} (h : g_X9_stop u p0 p1 = some (.inr E, w')) : XV l yX9_stop (wm yX9_stop cX9_stop 4 none) rx_X9_stop D [(cI, .int), (cZ, .boolean)] (wC cI cZ ad u) (wC cI cZ ad w') [.ref (ad 0), .int p0, .int p1] E := by
  intro sz
  refine vx_ofW (cc := cX9_stop) (maxL := 4) (ret := none) (by decide) rfl ?_
  intro p e s m args below meth c s₁ B hml hout hv
  obtain ⟨rfl, hsz, hP, hK, hD0, hZ⟩ := hv
  have hx := B.exec
  have hb := B.bytes
  have hts : ∀ w ∈ Wall, w.before _ s = true := fun w hw => atoms_spec (ws := wm yX9_stop cX9_stop 4 none) B.pre w (List.mem_cons_of_mem _ hw)
  have hown : s.vm.findClass RX9 = some m.cls := findClass_of_methodNamed B.named
  have hlocks := B.notSynchronized
  subst hsz
  have hD := hD0.self (sz := s.heap.size)
  generalize hAe : va_A (wC cI cZ ad u) s.heap.size = A at hD hZ
  have hA : ∀ q : Nat, s.heap.size ≤ q → A q := fun q h => by rw [← hAe]; exact Or.inr h
  have hS : va_S A s.heap s.heap [] := va_S.rf
  have hf16 := hts _ mw_275
  have hf191 := hts _ mw_53
  have hf44 := hts _ mw_279
  have hf179 := hts _ mw_144
  have hl := lv_entry ([.ref (ad 0), .int p0, .int p1]) (n := 4) (Nat.le_of_ble_eq_true rfl)
  rw [lg_entry_eq]
  generalize (lg_sl ([.ref (ad 0), .int p0, .int p1]) ++ List.replicate (4 - (lg_sl ([.ref (ad 0), .int p0, .int p1])).length) Slot.unset).toArray = ls at hl ⊢
  replace hl : lv_has ls 4 [(0, .ref (ad 0)), (1, .int p0), (2, .int p1)] := hl
  refine w_gen (fun Q hQ => ?_)
  refine lv_iload_n hx hb dX9_stop_0 rfl (lv_at hl 1 rfl) ?_
  refine lv_iload_n hx hb dX9_stop_1 rfl (lv_at hl 2 rfl) ?_
  rcases gx_xx h with ⟨y1, u2, hc3, h⟩ | ⟨u2, hc3, ew⟩
  · refine cc_vS (As := [.int p0, .int p1]) (rest := []) ⟨hx, hb, hml, hown, hts⟩ (k_X9_needPlace l D cI cZ ad u p0 p1 hc3) (va_cwS 2 hts (gwS mw_309 mw_310 mw_19 mw_311) rfl rfl rfl (by decide +kernel) ⟨Nat.le_of_ble_eq_true rfl, Nat.le_of_ble_eq_true rfl⟩) hK hP hD hS hA hZ rfl hl.1 rfl (Nat.le_of_ble_eq_true rfl) dX9_stop_2 ⟨Nat.zero_le _, Nat.zero_le _⟩ (fun H locs hP hD hS => ?_)
    refine lv_iload_n hx hb dX9_stop_5 rfl (lv_at hl 1 rfl) ?_
    refine lv_iload_n hx hb dX9_stop_6 rfl (lv_at hl 2 rfl) ?_
    obtain ⟨y4, hc5, h⟩ := gx_bind h
    refine cc_iS (As := [.int p0, .int p1]) (rest := []) ⟨hx, hb, hml, hown, hts⟩ (k_X9_placeOf l D cI cZ ad u2 p0 p1 hc5) (va_cwS 2 hts (gwS mw_391 mw_236 mw_19 mw_237) rfl rfl rfl (by decide +kernel) ⟨Nat.le_of_ble_eq_true rfl, Nat.le_of_ble_eq_true rfl⟩) hK hP hD hS hA hZ rfl hl.1 rfl (Nat.le_of_ble_eq_true rfl) dX9_stop_7 ⟨Nat.zero_le _, Nat.zero_le _⟩ (fun H locs hP hD hS => ?_)
    refine lv_istore_n (lv' := [(3, .int y4), (0, .ref (ad 0)), (1, .int p0), (2, .int p1)]) hx hb dX9_stop_10 rfl hl (by decide) rfl (fun ls hl => ?_)
    refine lv_aload_n hx hb dX9_stop_11 rfl (lv_at hl 1 rfl) ?_
    refine va_get (D := D) (ci := 9) (v := .ref (ad 1)) (C := RX9) (T := TX9) (N := 10) hx hb hts iX9 hown hK hP 0 rfl rfl 1 (by decide) hf16 (fun _ h9 => h9) rfl dX9_stop_12 ?_
    refine va_get (D := D) (ci := 8) (v := .ref (ad 11)) (C := RX8) (T := TX8) (N := 7) hx hb hts iX8 hown hK hP 1 rfl rfl 1 (by decide) hf191 (fun _ h9 => h9) rfl dX9_stop_15 ?_
    refine lv_iload_n hx hb dX9_stop_18 rfl (lv_at hl 0 rfl) ?_
    obtain ⟨b6, h⟩ := gx_in h
    refine va_zald (D := D) hx hb hK hP 11 1 rfl rfl b6 dX9_stop_19 ?_
    obtain ⟨j28_7, ej28_7, h⟩ := gx_let h
    have hj28_7 : ∀ (z0_28 : Int32) (H : Heap) (locs : List Loc) (ls : Array Slot), j28_7 z0_28 = some (.inr E, w') → va_P D vwCl (wC cI cZ ad u2) H → va_D A (wC cI cZ ad u2) → va_S A s.heap H locs → lv_has ls 4 [(0, .ref (ad 0)), (1, .int p0), (2, .int p1), (3, .int y4)] → W p l e rx_X9_stop s m ([.ref (ad 0), .int p0, .int p1] : List Value).toArray below meth c H locs 0 0 Q (F0 m 28 ls [.int z0_28]) := by
      intro z0_28 H locs ls h hP hD hS hl
      subst ej28_7
      rcases gx_xx h with ⟨y8, u9, hc10, h⟩ | ⟨u9, hc10, ew⟩
      · refine cc_vS (As := [.int z0_28]) (rest := []) ⟨hx, hb, hml, hown, hts⟩ (k_X9_needState l D cI cZ ad u2 z0_28 hc10) (va_cwS 1 hts (gwS mw_455 mw_456 mw_19 mw_457) rfl rfl rfl (by decide +kernel) ⟨Nat.le_of_ble_eq_true rfl, Nat.le_of_ble_eq_true rfl⟩) hK hP hD hS hA hZ rfl hl.1 rfl (Nat.le_of_ble_eq_true rfl) dX9_stop_28 ⟨Nat.zero_le _, Nat.zero_le _⟩ (fun H locs hP hD hS => ?_)
        refine lv_aload_n hx hb dX9_stop_31 rfl (lv_at hl 0 rfl) ?_
        refine va_get (D := D) (ci := 9) (v := .ref (ad 1)) (C := RX9) (T := TX9) (N := 10) hx hb hts iX9 hown hK hP 0 rfl rfl 1 (by decide) hf16 (fun _ h9 => h9) rfl dX9_stop_32 ?_
        refine va_get (D := D) (ci := 8) (v := .ref (ad 11)) (C := RX8) (T := TX8) (N := 7) hx hb hts iX8 hown hK hP 1 rfl rfl 1 (by decide) hf191 (fun _ h9 => h9) rfl dX9_stop_35 ?_
        refine lv_iload_n hx hb dX9_stop_38 rfl (lv_at hl 3 rfl) ?_
        refine lv_iconst (v := 1) hx hb dX9_stop_39 (by decide) ?_
        obtain ⟨b11, h⟩ := gx_in h
        refine va_zast (D := D) hx hb hK hP hD hS 11 1 rfl rfl b11 dX9_stop_40 (fun H locs hP hD hS => ?_)
        obtain ⟨u12, eu12, h⟩ := gx_let h
        replace hP : va_P D vwCl (wC cI cZ ad u12) H := by rw [← eu12]; exact hP
        replace hD : va_D A (wC cI cZ ad u12) := by rw [← eu12]; exact hD
        refine lv_iload_n hx hb dX9_stop_41 rfl (lv_at hl 2 rfl) ?_
        refine lv_if_ne (tgt := 65) hx hb dX9_stop_42 (by decide) (fun c13 => ?_) (fun c13 => ?_)
        · replace h := gx_f c13 h
          cases h
        · replace h := gx_t c13 h
          refine lv_aload_n hx hb dX9_stop_45 rfl (lv_at hl 0 rfl) ?_
          refine va_get (D := D) (ci := 9) (v := .ref (ad 5)) (C := RX9) (T := TX9) (N := 10) hx hb hts iX9 hown hK hP 0 rfl rfl 5 (by decide) hf44 (fun _ h9 => h9) rfl dX9_stop_46 ?_
          refine va_get (D := D) (ci := 6) (v := .ref (ad 22)) (C := RX6) (T := TX6) (N := 2) hx hb hts iX6 hown hK hP 5 rfl rfl 1 (by decide) hf179 (fun _ h9 => h9) rfl dX9_stop_49 ?_
          refine lv_iload_n hx hb dX9_stop_52 rfl (lv_at hl 1 rfl) ?_
          refine lv_sipush (v := (-1000)) hx hb dX9_stop_53 (by decide) ?_
          obtain ⟨b14, h⟩ := gx_in h
          refine va_iast (D := D) hx hb hK hP hD hS 22 0 rfl rfl b14 dX9_stop_56 (fun H locs hP hD hS => ?_)
          obtain ⟨u15, eu15, h⟩ := gx_let h
          replace hP : va_P D vwCl (wC cI cZ ad u15) H := by rw [← eu15]; exact hP
          replace hD : va_D A (wC cI cZ ad u15) := by rw [← eu15]; exact hD
          refine lv_aload_n hx hb dX9_stop_57 rfl (lv_at hl 0 rfl) ?_
          refine va_get (D := D) (ci := 9) (v := .ref (ad 5)) (C := RX9) (T := TX9) (N := 10) hx hb hts iX9 hown hK hP 0 rfl rfl 5 (by decide) hf44 (fun _ h9 => h9) rfl dX9_stop_58 ?_
          obtain ⟨y16, hc17, h⟩ := gx_bind h
          refine cc_iV (As := []) (rest := []) ⟨hx, hb, hml, hown, hts⟩ (k_X6_shutAll l D cI cZ ad u15 hc17) (cwV 0 hts (gwV mw_576 mw_577 mw_578 mw_24 mw_579) rfl rfl rfl (by decide +kernel) ⟨Nat.le_of_ble_eq_true rfl, Nat.le_of_ble_eq_true rfl⟩) hK hP hD hS hA hZ (ci := 6) (q0 := 5) rfl rfl rfl hl.1 rfl (Nat.le_of_ble_eq_true rfl) dX9_stop_61 ⟨Nat.zero_le _, Nat.zero_le _⟩ (fun H locs hP hD hS => ?_)
          refine lv_pop hx hb dX9_stop_64 rfl ?_
          cases h
      · replace ew : u9 = w' := ew
        subst ew
        refine cX_vS (As := [.int z0_28]) (rest := []) ⟨hx, hb, hml, hown, hts⟩ (kx_X9_needState l hl0 D cI cZ ad u2 z0_28 hc10) (va_cwS 1 hts (gwS mw_455 mw_456 mw_19 mw_457) rfl rfl rfl (by decide +kernel) ⟨Nat.le_of_ble_eq_true rfl, Nat.le_of_ble_eq_true rfl⟩) hK hP hD hS hA hZ rfl hl.1 rfl (Nat.le_of_ble_eq_true rfl) dX9_stop_28 ⟨Nat.le_of_ble_eq_true rfl, Nat.le_of_ble_eq_true rfl⟩ (fun ce q9 H locs hP hD hS hz h1 h2 h3 => ?_)
        exact cX_back hAe hQ hout hlocks hK rfl hP hD hS hz h1 h2 h3 (Nat.le_refl _) (Nat.le_refl _)
    refine lv_if_ne (tgt := 27) hx hb dX9_stop_20 (by decide) (fun c18 => ?_) (fun c18 => ?_)
    · replace h := gx_f c18 h
      refine lv_iconst (v := 0) hx hb dX9_stop_27 (by decide) ?_
      exact hj28_7 (0 : Int32) _ _ _ h hP hD hS (lv_sub hl [1, 2, 3, 0] rfl)
    · replace h := gx_t c18 h
      refine lv_iconst (v := 1) hx hb dX9_stop_23 (by decide) ?_
      refine lv_goto (tgt := 28) hx hb dX9_stop_24 (by decide) ?_
      exact hj28_7 (1 : Int32) _ _ _ h hP hD hS (lv_sub hl [1, 2, 3, 0] rfl)
  · replace ew : u2 = w' := ew
    subst ew
    refine cX_vS (As := [.int p0, .int p1]) (rest := []) ⟨hx, hb, hml, hown, hts⟩ (kx_X9_needPlace l hl0 D cI cZ ad u p0 p1 hc3) (va_cwS 2 hts (gwS mw_309 mw_310 mw_19 mw_311) rfl rfl rfl (by decide +kernel) ⟨Nat.le_of_ble_eq_true rfl, Nat.le_of_ble_eq_true rfl⟩) hK hP hD hS hA hZ rfl hl.1 rfl (Nat.le_of_ble_eq_true rfl) dX9_stop_2 ⟨Nat.le_of_ble_eq_true rfl, Nat.le_of_ble_eq_true rfl⟩ (fun ce q9 H locs hP hD hS hz h1 h2 h3 => ?_)
    exact cX_back hAe hQ hout hlocks hK rfl hP hD hS hz h1 h2 h3 (Nat.le_refl _) (Nat.le_refl _)

def rX7_wantBy : Room := { frames := 0, cells := 0, slots := 0, locals := 0 }
set_option maxHeartbeats 4000000 in
set_option maxRecDepth 100000 in
theorem k_X7_wantBy (l : Launch) (D : va_G) (cI cZ : ClassId) (ad : Nat → Nat) (u : GS) (p0 : Int32) {r : Int32} (h : g_X7_wantBy p0 = some r) : MI l yX7_wantBy (wm yX7_wantBy cX7_wantBy 1 (some .int)) rX7_wantBy D [(cI, .int), (cZ, .boolean)] (wC cI cZ ad u) (wC cI cZ ad u) [.int p0] r := by
  intro sz
  refine Met.ofW (cc := cX7_wantBy) (maxL := 1) (ret := (some .int)) (by decide) rfl ?_
  intro p e s m args below meth c s₁ B hml hv
  obtain ⟨rfl, hsz, hP, hK, hD0, hZ⟩ := hv
  have hx := B.exec
  have hb := B.bytes
  have hr := B.returns
  have hts : ∀ w ∈ Wall, w.before _ s = true := fun w hw => atoms_spec (ws := wm yX7_wantBy cX7_wantBy 1 (some .int)) B.pre w (List.mem_cons_of_mem _ hw)
  have hown : s.vm.findClass RX7 = some m.cls := findClass_of_methodNamed B.named
  have hlocks := B.notSynchronized
  subst hsz
  have hD := hD0.self (sz := s.heap.size)
  generalize hAe : va_A (wC cI cZ ad u) s.heap.size = A at hD hZ ⊢
  have hA : ∀ q : Nat, s.heap.size ≤ q → A q := fun q h => by rw [← hAe]; exact Or.inr h
  have hS : va_S A s.heap s.heap [] := va_S.rf
  have hl := lv_entry ([.int p0]) (n := 1) (Nat.le_of_ble_eq_true rfl)
  rw [lg_entry_eq]
  generalize (lg_sl ([.int p0]) ++ List.replicate (1 - (lg_sl ([.int p0])).length) Slot.unset).toArray = ls at hl ⊢
  replace hl : lv_has ls 1 [(0, .int p0)] := hl
  refine w_gen (fun Q hQ => ?_)
  refine lv_iload_n hx hb dX7_wantBy_0 rfl (lv_at hl 0 rfl) ?_
  refine lv_iconst (v := (-1)) hx hb dX7_wantBy_1 (by decide) ?_
  refine lv_icmp_ne (tgt := 8) hx hb dX7_wantBy_2 (by decide) (fun c1 => ?_) (fun c1 => ?_)
  · replace h := gx_f c1 h
    refine lv_iload_n hx hb dX7_wantBy_8 rfl (lv_at hl 0 rfl) ?_
    refine lv_bipush (v := 40) hx hb dX7_wantBy_9 (by decide) ?_
    refine lv_icmp_ge (tgt := 17) hx hb dX7_wantBy_11 (by decide) (fun c2 => ?_) (fun c2 => ?_)
    · replace h := gx_t c2 h
      refine lv_iload_n hx hb dX7_wantBy_17 rfl (lv_at hl 0 rfl) ?_
      refine lv_bipush (v := 60) hx hb dX7_wantBy_18 (by decide) ?_
      refine lv_icmp_ge (tgt := 26) hx hb dX7_wantBy_20 (by decide) (fun c3 => ?_) (fun c3 => ?_)
      · replace h := gx_t c3 h
        refine lv_iload_n hx hb dX7_wantBy_26 rfl (lv_at hl 0 rfl) ?_
        refine lv_bipush (v := 80) hx hb dX7_wantBy_27 (by decide) ?_
        refine lv_icmp_ge (tgt := 37) hx hb dX7_wantBy_29 (by decide) (fun c4 => ?_) (fun c4 => ?_)
        · replace h := gx_t c4 h
          refine lv_bipush (v := 120) hx hb dX7_wantBy_37 (by decide) ?_
          cases h
          exact cc_ret hx hb hr rfl hQ hK hP hD hS rfl dX7_wantBy_39 hlocks
        · replace h := gx_f c4 h
          refine lv_bipush (v := 80) hx hb dX7_wantBy_32 (by decide) ?_
          refine lv_goto (tgt := 39) hx hb dX7_wantBy_34 (by decide) ?_
          cases h
          exact cc_ret hx hb hr rfl hQ hK hP hD hS rfl dX7_wantBy_39 hlocks
      · replace h := gx_f c3 h
        refine lv_bipush (v := 60) hx hb dX7_wantBy_23 (by decide) ?_
        cases h
        exact cc_ret hx hb hr rfl hQ hK hP hD hS rfl dX7_wantBy_25 hlocks
    · replace h := gx_f c2 h
      refine lv_bipush (v := 40) hx hb dX7_wantBy_14 (by decide) ?_
      cases h
      exact cc_ret hx hb hr rfl hQ hK hP hD hS rfl dX7_wantBy_16 hlocks
  · replace h := gx_t c1 h
    refine lv_bipush (v := 60) hx hb dX7_wantBy_5 (by decide) ?_
    cases h
    exact cc_ret hx hb hr rfl hQ hK hP hD hS rfl dX7_wantBy_7 hlocks

def rX7_wantAt : Room := { frames := 1, cells := 0, slots := 0, locals := 22 }
set_option maxHeartbeats 4000000 in
set_option maxRecDepth 100000 in
theorem k_X7_wantAt (l : Launch) (D : va_G) (cI cZ : ClassId) (ad : Nat → Nat) (u : GS) (p0 : Int32) (p1 : Int32) {r : Int32} (h : g_X7_wantAt u p0 p1 = some r) : MI l yX7_wantAt (wm yX7_wantAt cX7_wantAt 4 (some .int)) rX7_wantAt D [(cI, .int), (cZ, .boolean)] (wC cI cZ ad u) (wC cI cZ ad u) [.ref (ad 3), .int p0, .int p1] r := by
  intro sz
  refine Met.ofW (cc := cX7_wantAt) (maxL := 4) (ret := (some .int)) (by decide) rfl ?_
  intro p e s m args below meth c s₁ B hml hv
  obtain ⟨rfl, hsz, hP, hK, hD0, hZ⟩ := hv
  have hx := B.exec
  have hb := B.bytes
  have hr := B.returns
  have hts : ∀ w ∈ Wall, w.before _ s = true := fun w hw => atoms_spec (ws := wm yX7_wantAt cX7_wantAt 4 (some .int)) B.pre w (List.mem_cons_of_mem _ hw)
  have hown : s.vm.findClass RX7 = some m.cls := findClass_of_methodNamed B.named
  have hlocks := B.notSynchronized
  subst hsz
  have hD := hD0.self (sz := s.heap.size)
  generalize hAe : va_A (wC cI cZ ad u) s.heap.size = A at hD hZ ⊢
  have hA : ∀ q : Nat, s.heap.size ≤ q → A q := fun q h => by rw [← hAe]; exact Or.inr h
  have hS : va_S A s.heap s.heap [] := va_S.rf
  obtain ⟨t3, hz_t3, ht_t3⟩ := hZ.2.2.2.1
  have hf9 := hts _ mw_102
  have hf21 := hts _ mw_107
  have hf47 := hts _ mw_769
  have hl := lv_entry ([.ref (ad 3), .int p0, .int p1]) (n := 4) (Nat.le_of_ble_eq_true rfl)
  rw [lg_entry_eq]
  generalize (lg_sl ([.ref (ad 3), .int p0, .int p1]) ++ List.replicate (4 - (lg_sl ([.ref (ad 3), .int p0, .int p1])).length) Slot.unset).toArray = ls at hl ⊢
  replace hl : lv_has ls 4 [(0, .ref (ad 3)), (1, .int p0), (2, .int p1)] := hl
  refine w_gen (fun Q hQ => ?_)
  refine lv_aload_n hx hb dX7_wantAt_0 rfl (lv_at hl 0 rfl) ?_
  refine va_get (D := D) (ci := 7) (v := .ref (ad 15)) (C := RX7) (T := TX7) (N := 4) hx hb hts iX7 hown hK hP 3 rfl rfl 0 (by decide) hf9 (fun _ h9 => h9) rfl dX7_wantAt_1 ?_
  refine lv_iload_n hx hb dX7_wantAt_4 rfl (lv_at hl 1 rfl) ?_
  obtain ⟨b1, h⟩ := gx_in h
  refine va_iald (D := D) hx hb hK hP 15 0 rfl rfl b1 dX7_wantAt_5 ?_
  refine lv_iconst (v := (-1)) hx hb dX7_wantAt_6 (by decide) ?_
  refine lv_icmp_eq (tgt := 17) hx hb dX7_wantAt_7 (by decide) (fun c2 => ?_) (fun c2 => ?_)
  · replace h := gx_t c2 h
    refine lv_aload_n hx hb dX7_wantAt_17 rfl (lv_at hl 0 rfl) ?_
    refine va_get (D := D) (ci := 7) (v := .int (cS_weather u)) (C := RX7) (T := TX7) (N := 4) hx hb hts iX7 hown hK hP 3 rfl rfl 3 (by decide) hf21 (fun _ h9 => h9) rfl dX7_wantAt_18 ?_
    refine lv_iconst (v := 0) hx hb dX7_wantAt_21 (by decide) ?_
    refine lv_iconst (v := 3) hx hb dX7_wantAt_22 (by decide) ?_
    obtain ⟨y3, hc4, h⟩ := gx_bind h
    refine cc_iSN (As := [.int (cS_weather u), .int (0 : Int32), .int (3 : Int32)]) (rest := []) ⟨hx, hb, hml, hown, hts⟩ (k_X9_isWithin l D cI cZ ad u (cS_weather u) (0 : Int32) (3 : Int32) hc4) ⟨va_cnB 3 hts (gwM mw_244) rfl rfl rfl (hZ.1 ("RedcrossGantry$SpeedSigns", 44, yX9_isWithin) (by decide +kernel)) (hts _ mw_19) (by decide +kernel) ⟨Nat.le_of_ble_eq_true rfl, Nat.le_of_ble_eq_true rfl⟩, hts _ mw_243, trivial⟩ hK hP hD hS hA hZ rfl hl.1 rfl (Nat.le_of_ble_eq_true rfl) dX7_wantAt_23 ⟨Nat.zero_le _, Nat.zero_le _⟩ (fun H locs hP hD hS => ?_)
    obtain ⟨j42_5, ej42_5, h⟩ := gx_let h
    have hj42_5 : ∀ (z0_42 : Int32) (H : Heap) (locs : List Loc) (ls : Array Slot), j42_5 z0_42 = some r → va_P D vwCl (wC cI cZ ad u) H → va_D A (wC cI cZ ad u) → va_S A s.heap H locs → lv_has ls 4 [(2, .int p1)] → W p l e rX7_wantAt s m ([.ref (ad 3), .int p0, .int p1] : List Value).toArray below meth c H locs 0 0 Q (F0 m 42 ls [.int z0_42]) := by
      intro z0_42 H locs ls h hP hD hS hl
      subst ej42_5
      refine lv_istore_n (lv' := [(3, .int z0_42), (2, .int p1)]) hx hb dX7_wantAt_42 rfl hl (by decide) rfl (fun ls hl => ?_)
      refine lv_iload_n hx hb dX7_wantAt_43 rfl (lv_at hl 1 rfl) ?_
      obtain ⟨y6, hc7, h⟩ := gx_bind h
      refine cc_iS (As := [.int p1]) (rest := []) ⟨hx, hb, hml, hown, hts⟩ (k_X7_wantBy l D cI cZ ad u p1 hc7) (va_cwS 1 hts (gwS mw_771 mw_772 mw_22 mw_773) rfl rfl rfl (by decide +kernel) ⟨Nat.le_of_ble_eq_true rfl, Nat.le_of_ble_eq_true rfl⟩) hK hP hD hS hA hZ rfl hl.1 rfl (Nat.le_of_ble_eq_true rfl) dX7_wantAt_44 ⟨Nat.zero_le _, Nat.zero_le _⟩ (fun H locs hP hD hS => ?_)
      refine lv_iload_n hx hb dX7_wantAt_47 rfl (lv_at hl 0 rfl) ?_
      refine va_mmin hx hb (hml.trans hl.1.symm) hown (hts _ mw_774) (hts _ mw_676) (hts _ mw_29) (hts _ mw_677) (Nat.le_of_ble_eq_true rfl) (Nat.le_of_ble_eq_true rfl) (Nat.zero_le _) (Nat.zero_le _) dX7_wantAt_48 ?_
      cases h
      exact cc_ret hx hb hr rfl hQ hK hP hD hS rfl dX7_wantAt_51 hlocks
    refine lv_if_eq (tgt := 40) hx hb dX7_wantAt_26 (by decide) (fun c8 => ?_) (fun c8 => ?_)
    · replace h := gx_t c8 h
      refine lv_bipush (v := 120) hx hb dX7_wantAt_40 (by decide) ?_
      exact hj42_5 (120 : Int32) _ _ _ h hP hD hS (lv_sub hl [2] rfl)
    · replace h := gx_f c8 h
      refine va_gets hx hb hz_t3 hS hown hf47 (fun _ h9 => h9) dX7_wantAt_29 ?_
      refine lv_aload_n hx hb dX7_wantAt_32 rfl (lv_at hl 0 rfl) ?_
      refine va_get (D := D) (ci := 7) (v := .int (cS_weather u)) (C := RX7) (T := TX7) (N := 4) hx hb hts iX7 hown hK hP 3 rfl rfl 3 (by decide) hf21 (fun _ h9 => h9) rfl dX7_wantAt_33 ?_
      obtain ⟨b9, h⟩ := gx_in h
      refine va_ti hx hb ht_t3 hS b9 rfl dX7_wantAt_36 ?_
      refine lv_goto (tgt := 42) hx hb dX7_wantAt_37 (by decide) ?_
      exact hj42_5 (wlF (cS_weather u).toNatClampNeg) _ _ _ h hP hD hS (lv_sub hl [2] rfl)
  · replace h := gx_f c2 h
    refine lv_aload_n hx hb dX7_wantAt_10 rfl (lv_at hl 0 rfl) ?_
    refine va_get (D := D) (ci := 7) (v := .ref (ad 15)) (C := RX7) (T := TX7) (N := 4) hx hb hts iX7 hown hK hP 3 rfl rfl 0 (by decide) hf9 (fun _ h9 => h9) rfl dX7_wantAt_11 ?_
    refine lv_iload_n hx hb dX7_wantAt_14 rfl (lv_at hl 1 rfl) ?_
    obtain ⟨b10, h⟩ := gx_in h
    refine va_iald (D := D) hx hb hK hP 15 0 rfl rfl b10 dX7_wantAt_15 ?_
    cases h
    exact cc_ret hx hb hr rfl hQ hK hP hD hS rfl dX7_wantAt_16 hlocks

def rX7_staysBelow : Room := { frames := 0, cells := 0, slots := 0, locals := 0 }
set_option maxHeartbeats 4000000 in
set_option maxRecDepth 100000 in
theorem k_X7_staysBelow (l : Launch) (D : va_G) (cI cZ : ClassId) (ad : Nat → Nat) (u : GS) (p0 : Int32) (p1 : Int32) (p2 : Int32) {r : Int32} (h : g_X7_staysBelow u p0 p1 p2 = some r) : MI l yX7_staysBelow (wm yX7_staysBelow cX7_staysBelow 4 (some .boolean)) rX7_staysBelow D [(cI, .int), (cZ, .boolean)] (wC cI cZ ad u) (wC cI cZ ad u) [.ref (ad 3), .int p0, .int p1, .int p2] r := by
  intro sz
  refine Met.ofW (cc := cX7_staysBelow) (maxL := 4) (ret := (some .boolean)) (by decide) rfl ?_
  intro p e s m args below meth c s₁ B hml hv
  obtain ⟨rfl, hsz, hP, hK, hD0, hZ⟩ := hv
  have hx := B.exec
  have hb := B.bytes
  have hr := B.returns
  have hts : ∀ w ∈ Wall, w.before _ s = true := fun w hw => atoms_spec (ws := wm yX7_staysBelow cX7_staysBelow 4 (some .boolean)) B.pre w (List.mem_cons_of_mem _ hw)
  have hown : s.vm.findClass RX7 = some m.cls := findClass_of_methodNamed B.named
  have hlocks := B.notSynchronized
  subst hsz
  have hD := hD0.self (sz := s.heap.size)
  generalize hAe : va_A (wC cI cZ ad u) s.heap.size = A at hD hZ ⊢
  have hA : ∀ q : Nat, s.heap.size ≤ q → A q := fun q h => by rw [← hAe]; exact Or.inr h
  have hS : va_S A s.heap s.heap [] := va_S.rf
  have hf9 := hts _ mw_102
  have hf15 := hts _ mw_104
  have hf18 := hts _ mw_106
  have hl := lv_entry ([.ref (ad 3), .int p0, .int p1, .int p2]) (n := 4) (Nat.le_of_ble_eq_true rfl)
  rw [lg_entry_eq]
  generalize (lg_sl ([.ref (ad 3), .int p0, .int p1, .int p2]) ++ List.replicate (4 - (lg_sl ([.ref (ad 3), .int p0, .int p1, .int p2])).length) Slot.unset).toArray = ls at hl ⊢
  replace hl : lv_has ls 4 [(0, .ref (ad 3)), (1, .int p0), (2, .int p1), (3, .int p2)] := hl
  refine w_gen (fun Q hQ => ?_)
  refine lv_aload_n hx hb dX7_staysBelow_0 rfl (lv_at hl 0 rfl) ?_
  refine va_get (D := D) (ci := 7) (v := .ref (ad 15)) (C := RX7) (T := TX7) (N := 4) hx hb hts iX7 hown hK hP 3 rfl rfl 0 (by decide) hf9 (fun _ h9 => h9) rfl dX7_staysBelow_1 ?_
  refine lv_iload_n hx hb dX7_staysBelow_4 rfl (lv_at hl 2 rfl) ?_
  obtain ⟨b1, h⟩ := gx_in h
  refine va_iald (D := D) hx hb hK hP 15 0 rfl rfl b1 dX7_staysBelow_5 ?_
  refine lv_iconst (v := (-1)) hx hb dX7_staysBelow_6 (by decide) ?_
  refine lv_icmp_ne (tgt := 36) hx hb dX7_staysBelow_7 (by decide) (fun c2 => ?_) (fun c2 => ?_)
  · replace h := gx_f c2 h
    refine lv_iconst (v := 0) hx hb dX7_staysBelow_36 (by decide) ?_
    cases h
    exact cc_ret hx hb hr rfl hQ hK hP hD hS rfl dX7_staysBelow_37 hlocks
  · replace h := gx_t c2 h
    refine lv_iload_n hx hb dX7_staysBelow_10 rfl (lv_at hl 1 rfl) ?_
    refine lv_aload_n hx hb dX7_staysBelow_11 rfl (lv_at hl 0 rfl) ?_
    refine va_get (D := D) (ci := 7) (v := .ref (ad 16)) (C := RX7) (T := TX7) (N := 4) hx hb hts iX7 hown hK hP 3 rfl rfl 1 (by decide) hf15 (fun _ h9 => h9) rfl dX7_staysBelow_12 ?_
    refine lv_iload_n hx hb dX7_staysBelow_15 rfl (lv_at hl 2 rfl) ?_
    obtain ⟨b3, h⟩ := gx_in h
    refine va_iald (D := D) hx hb hK hP 16 0 rfl rfl b3 dX7_staysBelow_16 ?_
    refine lv_icmp_le (tgt := 36) hx hb dX7_staysBelow_17 (by decide) (fun c4 => ?_) (fun c4 => ?_)
    · replace h := gx_t c4 h
      refine lv_iconst (v := 0) hx hb dX7_staysBelow_36 (by decide) ?_
      cases h
      exact cc_ret hx hb hr rfl hQ hK hP hD hS rfl dX7_staysBelow_37 hlocks
    · replace h := gx_f c4 h
      refine lv_iload_n hx hb dX7_staysBelow_20 rfl (lv_at hl 3 rfl) ?_
      refine lv_aload_n hx hb dX7_staysBelow_21 rfl (lv_at hl 0 rfl) ?_
      refine va_get (D := D) (ci := 7) (v := .ref (ad 17)) (C := RX7) (T := TX7) (N := 4) hx hb hts iX7 hown hK hP 3 rfl rfl 2 (by decide) hf18 (fun _ h9 => h9) rfl dX7_staysBelow_22 ?_
      refine lv_iload_n hx hb dX7_staysBelow_25 rfl (lv_at hl 2 rfl) ?_
      obtain ⟨b5, h⟩ := gx_in h
      refine va_iald (D := D) hx hb hK hP 17 0 rfl rfl b5 dX7_staysBelow_26 ?_
      refine lv_isub hx hb dX7_staysBelow_27 ?_
      refine lv_iconst (v := 3) hx hb dX7_staysBelow_28 (by decide) ?_
      refine lv_icmp_ge (tgt := 36) hx hb dX7_staysBelow_29 (by decide) (fun c6 => ?_) (fun c6 => ?_)
      · replace h := gx_t c6 h
        refine lv_iconst (v := 0) hx hb dX7_staysBelow_36 (by decide) ?_
        cases h
        exact cc_ret hx hb hr rfl hQ hK hP hD hS rfl dX7_staysBelow_37 hlocks
      · replace h := gx_f c6 h
        refine lv_iconst (v := 1) hx hb dX7_staysBelow_32 (by decide) ?_
        refine lv_goto (tgt := 37) hx hb dX7_staysBelow_33 (by decide) ?_
        cases h
        exact cc_ret hx hb hr rfl hQ hK hP hD hS rfl dX7_staysBelow_37 hlocks

def rX7_setAnew : Room := { frames := 4, cells := 0, slots := 0, locals := 94 }
set_option maxHeartbeats 4000000 in
set_option maxRecDepth 100000 in
theorem k_X7_setAnew (l : Launch) (D : va_G) (cI cZ : ClassId) (ad : Nat → Nat) (u : GS) (p0 : Int32) {w' : GS} (h : g_X7_setAnew u p0 = some w') : MV l yX7_setAnew (wm yX7_setAnew cX7_setAnew 7 none) rX7_setAnew D [(cI, .int), (cZ, .boolean)] (wC cI cZ ad u) (wC cI cZ ad w') [.ref (ad 3), .int p0, .ref (ad 2), .ref (ad 1)] := by
  intro sz
  refine Met.ofW (cc := cX7_setAnew) (maxL := 7) (ret := none) (by decide) rfl ?_
  intro p e s m args below meth c s₁ B hml hv
  obtain ⟨rfl, hsz, hP, hK, hD0, hZ⟩ := hv
  have hx := B.exec
  have hb := B.bytes
  have hr := B.returns
  have hts : ∀ w ∈ Wall, w.before _ s = true := fun w hw => atoms_spec (ws := wm yX7_setAnew cX7_setAnew 7 none) B.pre w (List.mem_cons_of_mem _ hw)
  have hown : s.vm.findClass RX7 = some m.cls := findClass_of_methodNamed B.named
  have hlocks := B.notSynchronized
  subst hsz
  have hD := hD0.self (sz := s.heap.size)
  generalize hAe : va_A (wC cI cZ ad u) s.heap.size = A at hD hZ ⊢
  have hA : ∀ q : Nat, s.heap.size ≤ q → A q := fun q h => by rw [← hAe]; exact Or.inr h
  have hS : va_S A s.heap s.heap [] := va_S.rf
  have hf15 := hts _ mw_104
  have hf18 := hts _ mw_106
  have hl := lv_entry ([.ref (ad 3), .int p0, .ref (ad 2), .ref (ad 1)]) (n := 7) (Nat.le_of_ble_eq_true rfl)
  rw [lg_entry_eq]
  generalize (lg_sl ([.ref (ad 3), .int p0, .ref (ad 2), .ref (ad 1)]) ++ List.replicate (7 - (lg_sl ([.ref (ad 3), .int p0, .ref (ad 2), .ref (ad 1)])).length) Slot.unset).toArray = ls at hl ⊢
  replace hl : lv_has ls 7 [(0, .ref (ad 3)), (1, .int p0), (2, .ref (ad 2)), (3, .ref (ad 1))] := hl
  refine w_gen (fun Q hQ => ?_)
  refine lv_bipush (v := 11) hx hb dX7_setAnew_0 (by decide) ?_
  refine lv_istore (lv' := [(4, .int (11 : Int32)), (0, .ref (ad 3)), (1, .int p0), (2, .ref (ad 2)), (3, .ref (ad 1))]) hx hb dX7_setAnew_2 hl (by decide) rfl (fun ls hl => ?_)
  have hL4 : ∀ (k : GS → Option (GS)) (hk : ∀ (w4 : GS) (H : Heap) (locs : List Loc) (ls : Array Slot), k w4 = some w' → va_P D vwCl (wC cI cZ ad w4) H → va_D A (wC cI cZ ad w4) → va_S A s.heap H locs → lv_has ls 7 [] → W p l e rX7_setAnew s m ([.ref (ad 3), .int p0, .ref (ad 2), .ref (ad 1)] : List Value).toArray below meth c H locs 0 0 Q (F0 m 113 ls [])) (n : Nat) (x4_4 : Int32) (w4 : GS) (H : Heap) (locs : List Loc) (ls : Array Slot), lp_X7_setAnew_4 p0 k n x4_4 w4 = some w' → va_P D vwCl (wC cI cZ ad w4) H → va_D A (wC cI cZ ad w4) → va_S A s.heap H locs → lv_has ls 7 [(0, .ref (ad 3)), (1, .int p0), (2, .ref (ad 2)), (3, .ref (ad 1)), (4, .int x4_4)] → W p l e rX7_setAnew s m ([.ref (ad 3), .int p0, .ref (ad 2), .ref (ad 1)] : List Value).toArray below meth c H locs 0 0 Q (F0 m 4 ls []) := by
    intro k hk n
    induction n with
    | zero =>
      intro x4_4 w4 H locs ls h
      rw [lp_X7_setAnew_4] at h
      cases h
    | succ n ih =>
      intro x4_4 w4 H locs ls h hP hD hS hl
      rw [lp_X7_setAnew_4] at h
      refine lv_iload hx hb dX7_setAnew_4 (lv_at hl 4 rfl) ?_
      refine lv_if_lt (tgt := 113) hx hb dX7_setAnew_6 (by decide) (fun c1 => ?_) (fun c1 => ?_)
      · replace h := gx_t c1 h
        exact hk w4 _ _ _ h hP hD hS (lv_sub hl [] rfl)
      · replace h := gx_f c1 h
        refine lv_aload_n hx hb dX7_setAnew_9 rfl (lv_at hl 0 rfl) ?_
        refine lv_iload hx hb dX7_setAnew_10 (lv_at hl 4 rfl) ?_
        refine lv_aload_n hx hb dX7_setAnew_12 rfl (lv_at hl 2 rfl) ?_
        refine lv_iload hx hb dX7_setAnew_13 (lv_at hl 4 rfl) ?_
        refine lv_aload_n hx hb dX7_setAnew_15 rfl (lv_at hl 3 rfl) ?_
        obtain ⟨y2, hc3, h⟩ := gx_bind h
        refine cc_iV (As := [.int x4_4, .ref (ad 1)]) (rest := [.int x4_4, .ref (ad 3)]) ⟨hx, hb, hml, hown, hts⟩ (k_X1_beliefAt l D cI cZ ad w4 x4_4 hc3) (cwV 2 hts (gwV mw_763 mw_409 mw_410 mw_21 mw_411) rfl rfl rfl (by decide +kernel) ⟨Nat.le_of_ble_eq_true rfl, Nat.le_of_ble_eq_true rfl⟩) hK hP hD hS hA hZ (ci := 1) (q0 := 2) rfl rfl rfl hl.1 rfl (Nat.le_of_ble_eq_true rfl) dX7_setAnew_16 ⟨Nat.zero_le _, Nat.zero_le _⟩ (fun H locs hP hD hS => ?_)
        obtain ⟨y4, hc5, h⟩ := gx_bind h
        refine cc_iV (As := [.int x4_4, .int y2]) (rest := []) ⟨hx, hb, hml, hown, hts⟩ (k_X7_wantAt l D cI cZ ad w4 x4_4 y2 hc5) (cwV 2 hts (gwV mw_764 mw_766 mw_16 mw_22 mw_767) rfl rfl rfl (by decide +kernel) ⟨Nat.le_of_ble_eq_true rfl, Nat.le_of_ble_eq_true rfl⟩) hK hP hD hS hA hZ (ci := 7) (q0 := 3) rfl rfl rfl hl.1 rfl (Nat.le_of_ble_eq_true rfl) dX7_setAnew_19 ⟨Nat.zero_le _, Nat.zero_le _⟩ (fun H locs hP hD hS => ?_)
        refine lv_istore (lv' := [(5, .int y4), (0, .ref (ad 3)), (1, .int p0), (2, .ref (ad 2)), (3, .ref (ad 1)), (4, .int x4_4)]) hx hb dX7_setAnew_22 hl (by decide) rfl (fun ls hl => ?_)
        refine lv_aload_n hx hb dX7_setAnew_24 rfl (lv_at hl 1 rfl) ?_
        refine lv_iload hx hb dX7_setAnew_25 (lv_at hl 0 rfl) ?_
        refine lv_iload hx hb dX7_setAnew_27 (lv_at hl 5 rfl) ?_
        refine lv_iload_n hx hb dX7_setAnew_29 rfl (lv_at hl 2 rfl) ?_
        obtain ⟨y6, hc7, h⟩ := gx_bind h
        refine cc_iV (As := [.int y4, .int x4_4, .int p0]) (rest := []) ⟨hx, hb, hml, hown, hts⟩ (k_X7_staysBelow l D cI cZ ad w4 y4 x4_4 p0 hc7) (cwV 3 hts (gwV mw_775 mw_777 mw_17 mw_22 mw_778) rfl rfl rfl (by decide +kernel) ⟨Nat.le_of_ble_eq_true rfl, Nat.le_of_ble_eq_true rfl⟩) hK hP hD hS hA hZ (ci := 7) (q0 := 3) rfl rfl rfl hl.1 rfl (Nat.le_of_ble_eq_true rfl) dX7_setAnew_30 ⟨Nat.zero_le _, Nat.zero_le _⟩ (fun H locs hP hD hS => ?_)
        obtain ⟨j48_8, ej48_8, h⟩ := gx_let h
        have hj48_8 : ∀ (z0_48 : Int32) (H : Heap) (locs : List Loc) (ls : Array Slot), j48_8 z0_48 = some w' → va_P D vwCl (wC cI cZ ad w4) H → va_D A (wC cI cZ ad w4) → va_S A s.heap H locs → lv_has ls 7 [(0, .ref (ad 3)), (1, .int p0), (2, .ref (ad 2)), (3, .ref (ad 1)), (4, .int x4_4)] → W p l e rX7_setAnew s m ([.ref (ad 3), .int p0, .ref (ad 2), .ref (ad 1)] : List Value).toArray below meth c H locs 0 0 Q (F0 m 48 ls [.int z0_48]) := by
          intro z0_48 H locs ls h hP hD hS hl
          subst ej48_8
          refine lv_istore (lv' := [(6, .int z0_48), (0, .ref (ad 3)), (1, .int p0), (2, .ref (ad 2)), (3, .ref (ad 1)), (4, .int x4_4)]) hx hb dX7_setAnew_48 hl (by decide) rfl (fun ls hl => ?_)
          refine lv_iload hx hb dX7_setAnew_50 (lv_at hl 5 rfl) ?_
          refine lv_iconst (v := 1) hx hb dX7_setAnew_52 (by decide) ?_
          refine lv_iadd hx hb dX7_setAnew_53 ?_
          refine lv_bipush (v := 12) hx hb dX7_setAnew_54 (by decide) ?_
          obtain ⟨j78_9, ej78_9, h⟩ := gx_let h
          have hj78_9 : ∀ (x6_78 : Int32) (H : Heap) (locs : List Loc) (ls : Array Slot), j78_9 x6_78 = some w' → va_P D vwCl (wC cI cZ ad w4) H → va_D A (wC cI cZ ad w4) → va_S A s.heap H locs → lv_has ls 7 [(0, .ref (ad 3)), (1, .int p0), (2, .ref (ad 2)), (3, .ref (ad 1)), (4, .int x4_4), (6, .int x6_78)] → W p l e rX7_setAnew s m ([.ref (ad 3), .int p0, .ref (ad 2), .ref (ad 1)] : List Value).toArray below meth c H locs 0 0 Q (F0 m 78 ls []) := by
            intro x6_78 H locs ls h hP hD hS hl
            subst ej78_9
            refine lv_iload hx hb dX7_setAnew_78 (lv_at hl 5 rfl) ?_
            refine lv_aload_n hx hb dX7_setAnew_80 rfl (lv_at hl 0 rfl) ?_
            refine va_get (D := D) (ci := 7) (v := .ref (ad 16)) (C := RX7) (T := TX7) (N := 4) hx hb hts iX7 hown hK hP 3 rfl rfl 1 (by decide) hf15 (fun _ h9 => h9) rfl dX7_setAnew_81 ?_
            refine lv_iload hx hb dX7_setAnew_84 (lv_at hl 4 rfl) ?_
            obtain ⟨b10, h⟩ := gx_in h
            refine va_iald (D := D) hx hb hK hP 16 0 rfl rfl b10 dX7_setAnew_86 ?_
            obtain ⟨j98_11, ej98_11, h⟩ := gx_let h
            have hj98_11 : ∀ (w98 : GS) (H : Heap) (locs : List Loc) (ls : Array Slot), j98_11 w98 = some w' → va_P D vwCl (wC cI cZ ad w98) H → va_D A (wC cI cZ ad w98) → va_S A s.heap H locs → lv_has ls 7 [(0, .ref (ad 3)), (1, .int p0), (2, .ref (ad 2)), (3, .ref (ad 1)), (4, .int x4_4), (6, .int x6_78)] → W p l e rX7_setAnew s m ([.ref (ad 3), .int p0, .ref (ad 2), .ref (ad 1)] : List Value).toArray below meth c H locs 0 0 Q (F0 m 98 ls []) := by
              intro w98 H locs ls h hP hD hS hl
              subst ej98_11
              refine lv_aload_n hx hb dX7_setAnew_98 rfl (lv_at hl 0 rfl) ?_
              refine va_get (D := D) (ci := 7) (v := .ref (ad 16)) (C := RX7) (T := TX7) (N := 4) hx hb hts iX7 hown hK hP 3 rfl rfl 1 (by decide) hf15 (fun _ h9 => h9) rfl dX7_setAnew_99 ?_
              refine lv_iload hx hb dX7_setAnew_102 (lv_at hl 4 rfl) ?_
              refine lv_iload hx hb dX7_setAnew_104 (lv_at hl 5 rfl) ?_
              obtain ⟨b12, h⟩ := gx_in h
              refine va_iast (D := D) hx hb hK hP hD hS 16 0 rfl rfl b12 dX7_setAnew_106 (fun H locs hP hD hS => ?_)
              obtain ⟨u13, eu13, h⟩ := gx_let h
              replace hP : va_P D vwCl (wC cI cZ ad u13) H := by rw [← eu13]; exact hP
              replace hD : va_D A (wC cI cZ ad u13) := by rw [← eu13]; exact hD
              obtain ⟨v14, ev14, h⟩ := gx_let h
              refine lv_iinc (v := v14) (lv' := [(4, .int v14), (0, .ref (ad 3)), (1, .int p0), (2, .ref (ad 2)), (3, .ref (ad 1)), (6, .int x6_78)]) hx hb dX7_setAnew_107 hl (k := 4) rfl (by rw [← ev14]; rfl) (by decide) rfl (fun ls hl => ?_)
              refine lv_goto (tgt := 4) hx hb dX7_setAnew_110 (by decide) ?_
              exact ih v14 u13 _ _ _ h hP hD hS (lv_sub hl [1, 2, 3, 4, 0] rfl)
            refine lv_icmp_ge (tgt := 98) hx hb dX7_setAnew_87 (by decide) (fun c15 => ?_) (fun c15 => ?_)
            · replace h := gx_t c15 h
              exact hj98_11 w4 _ _ _ h hP hD hS (lv_sub hl [0, 1, 2, 3, 4, 5] rfl)
            · replace h := gx_f c15 h
              refine lv_aload_n hx hb dX7_setAnew_90 rfl (lv_at hl 0 rfl) ?_
              refine va_get (D := D) (ci := 7) (v := .ref (ad 17)) (C := RX7) (T := TX7) (N := 4) hx hb hts iX7 hown hK hP 3 rfl rfl 2 (by decide) hf18 (fun _ h9 => h9) rfl dX7_setAnew_91 ?_
              refine lv_iload hx hb dX7_setAnew_94 (lv_at hl 4 rfl) ?_
              refine lv_iload_n hx hb dX7_setAnew_96 rfl (lv_at hl 1 rfl) ?_
              obtain ⟨b16, h⟩ := gx_in h
              refine va_iast (D := D) hx hb hK hP hD hS 17 0 rfl rfl b16 dX7_setAnew_97 (fun H locs hP hD hS => ?_)
              obtain ⟨u17, eu17, h⟩ := gx_let h
              replace hP : va_P D vwCl (wC cI cZ ad u17) H := by rw [← eu17]; exact hP
              replace hD : va_D A (wC cI cZ ad u17) := by rw [← eu17]; exact hD
              exact hj98_11 u17 _ _ _ h hP hD hS (lv_sub hl [0, 1, 2, 3, 4, 5] rfl)
          refine lv_icmp_ge (tgt := 78) hx hb dX7_setAnew_56 (by decide) (fun c18 => ?_) (fun c18 => ?_)
          · replace h := gx_t c18 h
            exact hj78_9 z0_48 _ _ _ h hP hD hS (lv_sub hl [1, 2, 3, 4, 5, 0] rfl)
          · replace h := gx_f c18 h
            refine lv_iload hx hb dX7_setAnew_59 (lv_at hl 0 rfl) ?_
            refine lv_aload_n hx hb dX7_setAnew_61 rfl (lv_at hl 1 rfl) ?_
            refine va_get (D := D) (ci := 7) (v := .ref (ad 16)) (C := RX7) (T := TX7) (N := 4) hx hb hts iX7 hown hK hP 3 rfl rfl 1 (by decide) hf15 (fun _ h9 => h9) rfl dX7_setAnew_62 ?_
            refine lv_iload hx hb dX7_setAnew_65 (lv_at hl 5 rfl) ?_
            refine lv_iconst (v := 1) hx hb dX7_setAnew_67 (by decide) ?_
            refine lv_iadd hx hb dX7_setAnew_68 ?_
            obtain ⟨b19, h⟩ := gx_in h
            refine va_iald (D := D) hx hb hK hP 16 0 rfl rfl b19 dX7_setAnew_69 ?_
            refine lv_bipush (v := 20) hx hb dX7_setAnew_70 (by decide) ?_
            refine lv_iadd hx hb dX7_setAnew_72 ?_
            refine va_mmin hx hb (hml.trans hl.1.symm) hown (hts _ mw_774) (hts _ mw_676) (hts _ mw_29) (hts _ mw_677) (Nat.le_of_ble_eq_true rfl) (Nat.le_of_ble_eq_true rfl) (Nat.zero_le _) (Nat.zero_le _) dX7_setAnew_73 ?_
            obtain ⟨v20, ev20, h⟩ := gx_let h
            refine lv_topn ev20 ?_
            refine lv_istore (lv' := [(6, .int v20), (0, .ref (ad 3)), (1, .int p0), (2, .ref (ad 2)), (3, .ref (ad 1)), (4, .int x4_4)]) hx hb dX7_setAnew_76 hl (by decide) rfl (fun ls hl => ?_)
            exact hj78_9 v20 _ _ _ h hP hD hS (lv_sub hl [1, 2, 3, 4, 5, 0] rfl)
        refine lv_if_eq (tgt := 46) hx hb dX7_setAnew_33 (by decide) (fun c21 => ?_) (fun c21 => ?_)
        · replace h := gx_t c21 h
          refine lv_iload hx hb dX7_setAnew_46 (lv_at hl 0 rfl) ?_
          exact hj48_8 y4 _ _ _ h hP hD hS (lv_sub hl [1, 2, 3, 4, 5] rfl)
        · replace h := gx_f c21 h
          refine lv_aload_n hx hb dX7_setAnew_36 rfl (lv_at hl 1 rfl) ?_
          refine va_get (D := D) (ci := 7) (v := .ref (ad 16)) (C := RX7) (T := TX7) (N := 4) hx hb hts iX7 hown hK hP 3 rfl rfl 1 (by decide) hf15 (fun _ h9 => h9) rfl dX7_setAnew_37 ?_
          refine lv_iload hx hb dX7_setAnew_40 (lv_at hl 5 rfl) ?_
          obtain ⟨b22, h⟩ := gx_in h
          refine va_iald (D := D) hx hb hK hP 16 0 rfl rfl b22 dX7_setAnew_42 ?_
          refine lv_goto (tgt := 48) hx hb dX7_setAnew_43 (by decide) ?_
          exact hj48_8 (cS_shown w4 x4_4.toNatClampNeg) _ _ _ h hP hD hS (lv_sub hl [1, 2, 3, 4, 5] rfl)
  refine hL4 _ (fun w4 H locs ls h hP hD hS hl => ?_) FU (11 : Int32) u _ _ _ h hP hD hS (lv_sub hl [1, 2, 3, 4, 0] rfl)
  cases h
  exact cc_vret hx hb hr hQ hK hP hD hS dX7_setAnew_113 hlocks

def rX5_keep : Room := { frames := 2, cells := 0, slots := 0, locals := 43 }
set_option maxHeartbeats 4000000 in
set_option maxRecDepth 100000 in
theorem k_X5_keep (l : Launch) (D : va_G) (cI cZ : ClassId) (ad : Nat → Nat) (u : GS) (p0 : Int32) {w' : GS} (h : g_X5_keep u p0 = some w') : MV l yX5_keep (wm yX5_keep cX5_keep 7 none) rX5_keep D [(cI, .int), (cZ, .boolean)] (wC cI cZ ad u) (wC cI cZ ad w') [.ref (ad 9), .int p0, .ref (ad 16), .ref (ad 20)] := by
  intro sz
  refine Met.ofW (cc := cX5_keep) (maxL := 7) (ret := none) (by decide) rfl ?_
  intro p e s m args below meth c s₁ B hml hv
  obtain ⟨rfl, hsz, hP, hK, hD0, hZ⟩ := hv
  have hx := B.exec
  have hb := B.bytes
  have hr := B.returns
  have hts : ∀ w ∈ Wall, w.before _ s = true := fun w hw => atoms_spec (ws := wm yX5_keep cX5_keep 7 none) B.pre w (List.mem_cons_of_mem _ hw)
  have hown : s.vm.findClass RX5 = some m.cls := findClass_of_methodNamed B.named
  have hlocks := B.notSynchronized
  subst hsz
  have hD := hD0.self (sz := s.heap.size)
  generalize hAe : va_A (wC cI cZ ad u) s.heap.size = A at hD hZ ⊢
  have hA : ∀ q : Nat, s.heap.size ≤ q → A q := fun q h => by rw [← hAe]; exact Or.inr h
  have hS : va_S A s.heap s.heap [] := va_S.rf
  have hf11 := hts _ mw_223
  have hl := lv_entry ([.ref (ad 9), .int p0, .ref (ad 16), .ref (ad 20)]) (n := 7) (Nat.le_of_ble_eq_true rfl)
  rw [lg_entry_eq]
  generalize (lg_sl ([.ref (ad 9), .int p0, .ref (ad 16), .ref (ad 20)]) ++ List.replicate (7 - (lg_sl ([.ref (ad 9), .int p0, .ref (ad 16), .ref (ad 20)])).length) Slot.unset).toArray = ls at hl ⊢
  replace hl : lv_has ls 7 [(0, .ref (ad 9)), (1, .int p0), (2, .ref (ad 16)), (3, .ref (ad 20))] := hl
  refine w_gen (fun Q hQ => ?_)
  refine lv_iconst (v := 0) hx hb dX5_keep_0 (by decide) ?_
  refine lv_istore (lv' := [(4, .int (0 : Int32)), (0, .ref (ad 9)), (1, .int p0), (2, .ref (ad 16)), (3, .ref (ad 20))]) hx hb dX5_keep_1 hl (by decide) rfl (fun ls hl => ?_)
  have hL3 : ∀ (k : GS → Option (GS)) (hk : ∀ (w3 : GS) (H : Heap) (locs : List Loc) (ls : Array Slot), k w3 = some w' → va_P D vwCl (wC cI cZ ad w3) H → va_D A (wC cI cZ ad w3) → va_S A s.heap H locs → lv_has ls 7 [] → W p l e rX5_keep s m ([.ref (ad 9), .int p0, .ref (ad 16), .ref (ad 20)] : List Value).toArray below meth c H locs 0 0 Q (F0 m 65 ls [])) (n : Nat) (x4_3 : Int32) (w3 : GS) (H : Heap) (locs : List Loc) (ls : Array Slot), lp_X5_keep_3 p0 k n x4_3 w3 = some w' → va_P D vwCl (wC cI cZ ad w3) H → va_D A (wC cI cZ ad w3) → va_S A s.heap H locs → lv_has ls 7 [(0, .ref (ad 9)), (1, .int p0), (2, .ref (ad 16)), (3, .ref (ad 20)), (4, .int x4_3)] → W p l e rX5_keep s m ([.ref (ad 9), .int p0, .ref (ad 16), .ref (ad 20)] : List Value).toArray below meth c H locs 0 0 Q (F0 m 3 ls []) := by
    intro k hk n
    induction n with
    | zero =>
      intro x4_3 w3 H locs ls h
      rw [lp_X5_keep_3] at h
      cases h
    | succ n ih =>
      intro x4_3 w3 H locs ls h hP hD hS hl
      rw [lp_X5_keep_3] at h
      refine lv_iload hx hb dX5_keep_3 (lv_at hl 4 rfl) ?_
      refine lv_bipush (v := 12) hx hb dX5_keep_5 (by decide) ?_
      refine lv_icmp_ge (tgt := 65) hx hb dX5_keep_7 (by decide) (fun c1 => ?_) (fun c1 => ?_)
      · replace h := gx_t c1 h
        exact hk w3 _ _ _ h hP hD hS (lv_sub hl [] rfl)
      · replace h := gx_f c1 h
        refine lv_aload_n hx hb dX5_keep_10 rfl (lv_at hl 2 rfl) ?_
        refine lv_iload hx hb dX5_keep_11 (lv_at hl 4 rfl) ?_
        obtain ⟨b2, h⟩ := gx_in h
        refine va_iald (D := D) hx hb hK hP 16 0 rfl rfl b2 dX5_keep_13 ?_
        obtain ⟨v3, ev3, h⟩ := gx_let h
        refine lv_topn ev3 ?_
        refine lv_istore (lv' := [(5, .int v3), (0, .ref (ad 9)), (1, .int p0), (2, .ref (ad 16)), (3, .ref (ad 20)), (4, .int x4_3)]) hx hb dX5_keep_14 hl (by decide) rfl (fun ls hl => ?_)
        refine lv_iconst (v := 3) hx hb dX5_keep_16 (by decide) ?_
        refine lv_istore (lv' := [(6, .int (3 : Int32)), (5, .int v3), (0, .ref (ad 9)), (1, .int p0), (2, .ref (ad 16)), (3, .ref (ad 20)), (4, .int x4_3)]) hx hb dX5_keep_17 hl (by decide) rfl (fun ls hl => ?_)
        have hL19 : ∀ (k : Int32 → Option (GS)) (hk : ∀ (x5_19 : Int32) (H : Heap) (locs : List Loc) (ls : Array Slot), k x5_19 = some w' → va_P D vwCl (wC cI cZ ad w3) H → va_D A (wC cI cZ ad w3) → va_S A s.heap H locs → lv_has ls 7 [(0, .ref (ad 9)), (1, .int p0), (2, .ref (ad 16)), (3, .ref (ad 20)), (4, .int x4_3), (5, .int x5_19)] → W p l e rX5_keep s m ([.ref (ad 9), .int p0, .ref (ad 16), .ref (ad 20)] : List Value).toArray below meth c H locs 0 0 Q (F0 m 46 ls [])) (n : Nat) (x5_19 : Int32) (x6_19 : Int32) (H : Heap) (locs : List Loc) (ls : Array Slot), lp_X5_keep_19 x4_3 w3 k n x5_19 x6_19 = some w' → va_P D vwCl (wC cI cZ ad w3) H → va_D A (wC cI cZ ad w3) → va_S A s.heap H locs → lv_has ls 7 [(0, .ref (ad 9)), (1, .int p0), (2, .ref (ad 16)), (3, .ref (ad 20)), (4, .int x4_3), (5, .int x5_19), (6, .int x6_19)] → W p l e rX5_keep s m ([.ref (ad 9), .int p0, .ref (ad 16), .ref (ad 20)] : List Value).toArray below meth c H locs 0 0 Q (F0 m 19 ls []) := by
          intro k hk n
          induction n with
          | zero =>
            intro x5_19 x6_19 H locs ls h
            rw [lp_X5_keep_19] at h
            cases h
          | succ n ih =>
            intro x5_19 x6_19 H locs ls h hP hD hS hl
            rw [lp_X5_keep_19] at h
            refine lv_iload hx hb dX5_keep_19 (lv_at hl 6 rfl) ?_
            refine lv_if_lt (tgt := 46) hx hb dX5_keep_21 (by decide) (fun c4 => ?_) (fun c4 => ?_)
            · replace h := gx_t c4 h
              exact hk x5_19 _ _ _ h hP hD hS (lv_sub hl [0, 1, 2, 3, 4, 5] rfl)
            · replace h := gx_f c4 h
              refine lv_iload hx hb dX5_keep_24 (lv_at hl 5 rfl) ?_
              refine lv_iconst (v := 4) hx hb dX5_keep_26 (by decide) ?_
              refine lv_imul hx hb dX5_keep_27 ?_
              refine lv_aload_n hx hb dX5_keep_28 rfl (lv_at hl 3 rfl) ?_
              refine lv_iload hx hb dX5_keep_29 (lv_at hl 4 rfl) ?_
              refine lv_iload hx hb dX5_keep_31 (lv_at hl 6 rfl) ?_
              obtain ⟨y5, hc6, h⟩ := gx_bind h
              refine cc_iSN (As := [.int x4_3, .int x6_19]) (rest := [.ref (ad 20), .int (x5_19 * (4 : Int32))]) ⟨hx, hb, hml, hown, hts⟩ (k_X9_placeOf l D cI cZ ad w3 x4_3 x6_19 hc6) ⟨va_cnB 2 hts (gwM mw_237) rfl rfl rfl (hZ.1 ("RedcrossGantry$Proofs", 19, yX9_placeOf) (by decide +kernel)) (hts _ mw_19) (by decide +kernel) ⟨Nat.le_of_ble_eq_true rfl, Nat.le_of_ble_eq_true rfl⟩, hts _ mw_236, trivial⟩ hK hP hD hS hA hZ rfl hl.1 rfl (Nat.le_of_ble_eq_true rfl) dX5_keep_33 ⟨Nat.zero_le _, Nat.zero_le _⟩ (fun H locs hP hD hS => ?_)
              obtain ⟨b7, h⟩ := gx_in h
              refine va_iald (D := D) hx hb hK hP 20 0 rfl rfl b7 dX5_keep_36 ?_
              refine lv_iadd hx hb dX5_keep_37 ?_
              obtain ⟨v8, ev8, h⟩ := gx_let h
              refine lv_topn ev8 ?_
              refine lv_istore (lv' := [(5, .int v8), (0, .ref (ad 9)), (1, .int p0), (2, .ref (ad 16)), (3, .ref (ad 20)), (4, .int x4_3), (6, .int x6_19)]) hx hb dX5_keep_38 hl (by decide) rfl (fun ls hl => ?_)
              obtain ⟨v9, ev9, h⟩ := gx_let h
              refine lv_iinc (v := v9) (lv' := [(6, .int v9), (5, .int v8), (0, .ref (ad 9)), (1, .int p0), (2, .ref (ad 16)), (3, .ref (ad 20)), (4, .int x4_3)]) hx hb dX5_keep_40 hl (k := 6) rfl (by rw [← ev9]; rfl) (by decide) rfl (fun ls hl => ?_)
              refine lv_goto (tgt := 19) hx hb dX5_keep_43 (by decide) ?_
              exact ih v8 v9 _ _ _ h hP hD hS (lv_sub hl [2, 3, 4, 5, 6, 1, 0] rfl)
        refine hL19 _ (fun x5_19 H locs ls h hP hD hS hl => ?_) FU v3 (3 : Int32) _ _ _ h hP hD hS (lv_sub hl [2, 3, 4, 5, 6, 1, 0] rfl)
        refine lv_aload_n hx hb dX5_keep_46 rfl (lv_at hl 0 rfl) ?_
        refine va_get (D := D) (ci := 5) (v := .ref (ad 34)) (C := RX5) (T := TX5) (N := 1) hx hb hts iX5 hown hK hP 9 rfl rfl 0 (by decide) hf11 (fun _ h9 => h9) rfl dX5_keep_47 ?_
        refine lv_iload_n hx hb dX5_keep_50 rfl (lv_at hl 1 rfl) ?_
        refine lv_iload hx hb dX5_keep_51 (lv_at hl 4 rfl) ?_
        obtain ⟨y10, hc11, h⟩ := gx_bind h
        refine cc_iS (As := [.int p0, .int x4_3]) (rest := [.ref (ad 34)]) ⟨hx, hb, hml, hown, hts⟩ (k_X5_slotOf l D cI cZ ad w3 p0 x4_3 hc11) (va_cwS 2 hts (gwS mw_268 mw_269 mw_28 mw_270) rfl rfl rfl (by decide +kernel) ⟨Nat.le_of_ble_eq_true rfl, Nat.le_of_ble_eq_true rfl⟩) hK hP hD hS hA hZ rfl hl.1 rfl (Nat.le_of_ble_eq_true rfl) dX5_keep_53 ⟨Nat.zero_le _, Nat.zero_le _⟩ (fun H locs hP hD hS => ?_)
        refine lv_iload hx hb dX5_keep_56 (lv_at hl 5 rfl) ?_
        obtain ⟨b12, h⟩ := gx_in h
        refine va_iast (D := D) hx hb hK hP hD hS 34 0 rfl rfl b12 dX5_keep_58 (fun H locs hP hD hS => ?_)
        obtain ⟨u13, eu13, h⟩ := gx_let h
        replace hP : va_P D vwCl (wC cI cZ ad u13) H := by rw [← eu13]; exact hP
        replace hD : va_D A (wC cI cZ ad u13) := by rw [← eu13]; exact hD
        obtain ⟨v14, ev14, h⟩ := gx_let h
        refine lv_iinc (v := v14) (lv' := [(4, .int v14), (0, .ref (ad 9)), (1, .int p0), (2, .ref (ad 16)), (3, .ref (ad 20)), (5, .int x5_19)]) hx hb dX5_keep_59 hl (k := 4) rfl (by rw [← ev14]; rfl) (by decide) rfl (fun ls hl => ?_)
        refine lv_goto (tgt := 3) hx hb dX5_keep_62 (by decide) ?_
        exact ih v14 u13 _ _ _ h hP hD hS (lv_sub hl [1, 2, 3, 4, 0] rfl)
  refine hL3 _ (fun w3 H locs ls h hP hD hS hl => ?_) FU (0 : Int32) u _ _ _ h hP hD hS (lv_sub hl [1, 2, 3, 4, 0] rfl)
  cases h
  exact cc_vret hx hb hr hQ hK hP hD hS dX5_keep_65 hlocks
end
section
abbrev I3 : Type := (Nat → Int32) × (Nat → Int32) × (Nat → Int32)
def i3_orders (u : I3) : (Nat → Int32) := u.1
def i3_orders_set (u : I3) (v : (Nat → Int32)) : I3 := (v, u.2)
def i3_told (u : I3) : (Nat → Int32) := u.2.1
def i3_told_set (u : I3) (v : (Nat → Int32)) : I3 := (u.1, (v, u.2.2))
def i3_shown (u : I3) : (Nat → Int32) := u.2.2
def i3_shown_set (u : I3) (v : (Nat → Int32)) : I3 := (u.1, (u.2.1, v))
def w_X3 (cI cZ : ClassId) (ad : Nat → Nat) (u : I3) : va_W := [(ad 0, .inr (3, [.ref (ad 1), .ref (ad 2), .ref (ad 3)])), (ad 1, .inl (cI, 48, .inl (i3_orders u))), (ad 2, .inl (cI, 48, .inl (i3_told u))), (ad 3, .inl (cI, 48, .inl (i3_shown u)))]
abbrev I6 : Type := (Nat → Int32) × (Nat → Int32)
def i6_open (u : I6) : (Nat → Int32) := u.1
def i6_open_set (u : I6) (v : (Nat → Int32)) : I6 := (v, u.2)
def i6_foundClearAt (u : I6) : (Nat → Int32) := u.2
def i6_foundClearAt_set (u : I6) (v : (Nat → Int32)) : I6 := (u.1, v)
def w_X6 (cI cZ : ClassId) (ad : Nat → Nat) (u : I6) : va_W := [(ad 0, .inr (6, [.ref (ad 1), .ref (ad 2)])), (ad 1, .inl (cZ, 12, .inl (i6_open u))), (ad 2, .inl (cI, 12, .inl (i6_foundClearAt u)))]
abbrev I7 : Type := (Nat → Int32) × (Nat → Int32) × (Nat → Int32) × Int32
def i7_limits (u : I7) : (Nat → Int32) := u.1
def i7_limits_set (u : I7) (v : (Nat → Int32)) : I7 := (v, u.2)
def i7_shown (u : I7) : (Nat → Int32) := u.2.1
def i7_shown_set (u : I7) (v : (Nat → Int32)) : I7 := (u.1, (v, u.2.2))
def i7_loweredAt (u : I7) : (Nat → Int32) := u.2.2.1
def i7_loweredAt_set (u : I7) (v : (Nat → Int32)) : I7 := (u.1, (u.2.1, (v, u.2.2.2)))
def i7_weather (u : I7) : Int32 := u.2.2.2
def i7_weather_set (u : I7) (v : Int32) : I7 := (u.1, (u.2.1, (u.2.2.1, v)))
def w_X7 (cI cZ : ClassId) (ad : Nat → Nat) (u : I7) : va_W := [(ad 0, .inr (7, [.ref (ad 1), .ref (ad 2), .ref (ad 3), .int (i7_weather u)])), (ad 1, .inl (cI, 12, .inl (i7_limits u))), (ad 2, .inl (cI, 12, .inl (i7_shown u))), (ad 3, .inl (cI, 12, .inl (i7_loweredAt u)))]
def lp_X7_init2_35 (k : I7 → Option I7) : Nat → Int32 → I7 → Option I7
  | 0, _, _ => none
  | n + 1, x1_35, w35 =>
    if (12 : Int32) ≤ x1_35 then
    k w35
    else
    g_in x1_35 12 (
    g_let (i7_limits_set w35 (upd (i7_limits w35) x1_35.toNatClampNeg (-1 : Int32))) (fun (u3 : I7) =>
    g_in x1_35 12 (
    g_let (i7_shown_set u3 (upd (i7_shown u3) x1_35.toNatClampNeg (120 : Int32))) (fun (u5 : I7) =>
    g_in x1_35 12 (
    g_let (i7_loweredAt_set u5 (upd (i7_loweredAt u5) x1_35.toNatClampNeg (-1000 : Int32))) (fun (u7 : I7) =>
    g_let (x1_35 + 1) (fun (v8 : Int32) =>
    lp_X7_init2_35 k n v8 u7)))))))
def g_X7_init2 (u : I7) : Option I7 :=
    lp_X7_init2_35 (fun (w35 : I7)  => some w35) FU (0 : Int32) u

def lp_X3_init2_30 (k : I3 → Option I3) : Nat → Int32 → I3 → Option I3
  | 0, _, _ => none
  | n + 1, x1_30, w30 =>
    if (48 : Int32) ≤ x1_30 then
    k w30
    else
    g_in x1_30 48 (
    g_let (i3_orders_set w30 (upd (i3_orders w30) x1_30.toNatClampNeg (-1 : Int32))) (fun (u3 : I3) =>
    g_let (x1_30 + 1) (fun (v4 : Int32) =>
    lp_X3_init2_30 k n v4 u3)))
def g_X3_init2 (u : I3) : Option I3 :=
    lp_X3_init2_30 (fun (w30 : I3)  => some w30) FU (0 : Int32) u

def lp_X6_init2_22 (k : I6 → Option I6) : Nat → Int32 → I6 → Option I6
  | 0, _, _ => none
  | n + 1, x1_22, w22 =>
    if (12 : Int32) ≤ x1_22 then
    k w22
    else
    g_in x1_22 12 (
    g_let (i6_foundClearAt_set w22 (upd (i6_foundClearAt w22) x1_22.toNatClampNeg (-1000 : Int32))) (fun (u3 : I6) =>
    g_let (x1_22 + 1) (fun (v4 : Int32) =>
    lp_X6_init2_22 k n v4 u3)))
def g_X6_init2 (u : I6) : Option I6 :=
    lp_X6_init2_22 (fun (w22 : I6)  => some w22) FU (0 : Int32) u

def g_X9_init2 (u : GS) : Option GS :=
    g_bind (g_X3_setAnew u (c_minute u)) (fun (y1 : GS) =>
    g_bind (g_X5_keep y1 (c_minute y1)) (fun (y3 : GS) =>
    some y3))

def rc_X8 : Room := { frames := 1, cells := 3, slots := 108, locals := 14 }
set_option maxHeartbeats 4000000 in
set_option maxRecDepth 100000 in
theorem kc_X8 (l : Launch) (D : va_G) (cI cZ : ClassId) (h0 : Nat) : MC l yX8_init (wm yX8_init cX8_init 1 none) rc_X8 D [(cI, .int), (cZ, .boolean)] [(h0, .inr (8, [.null, .null, .null, .int 0, .int 0, .int 0, .int 0]))] (fun ad => [(ad 0, .inr (8, [.ref (ad 1), .ref (ad 2), .ref (ad 3), .int 0, .int 0, .int 0, .int 0])), (ad 1, .inl (cI, 48, .inl (fun _ => 0))), (ad 2, .inl (cZ, 48, .inl (fun _ => 0))), (ad 3, .inl (cZ, 12, .inl (fun _ => 0)))]) h0 3 108 := by
  intro sz
  refine Met.ofW (cc := cX8_init) (maxL := 1) (ret := none) (by decide) rfl ?_
  intro p e s m args below meth c s₁ B hml hv
  obtain ⟨rfl, hsz, hP, hK, hD0, hZ⟩ := hv
  have hx := B.exec
  have hb := B.bytes
  have hr := B.returns
  have hts : ∀ w ∈ Wall, w.before _ s = true := fun w hw => atoms_spec (ws := wm yX8_init cX8_init 1 none) B.pre w (List.mem_cons_of_mem _ hw)
  have hown : s.vm.findClass RX8 = some m.cls := findClass_of_methodNamed B.named
  have hlocks := B.notSynchronized
  have hin : meth.name = "<init>" := (name_of_methodNamed B.named B.method).1
  subst hsz
  have hD := hD0.self (sz := s.heap.size)
  generalize hAe : va_A [(h0, .inr (8, [.null, .null, .null, .int 0, .int 0, .int 0, .int 0]))] s.heap.size = A at hD hZ ⊢
  have hA : ∀ q : Nat, s.heap.size ≤ q → A q := fun q h => by rw [← hAe]; exact Or.inr h
  have hS : va_S A s.heap s.heap [] := va_S.rf
  have hf9 := hts _ mw_50
  have hf15 := hts _ mw_52
  have hf19 := hts _ mw_54
  have hf22 := hts _ mw_56
  have hf26 := hts _ mw_58
  have hf29 := hts _ mw_60
  have hf32 := hts _ mw_62
  have hl := lv_entry ([.ref h0]) (n := 1) (Nat.le_of_ble_eq_true rfl)
  rw [lg_entry_eq]
  generalize (lg_sl ([.ref h0]) ++ List.replicate (1 - (lg_sl ([.ref h0])).length) Slot.unset).toArray = ls at hl ⊢
  replace hl : lv_has ls 1 [(0, .ref h0)] := hl
  refine w_gen (fun Q hQ => ?_)
  refine lv_aload_n hx hb dX8_init_0 rfl (lv_at hl 0 rfl) ?_
  refine W.objInit hx hb hown (hts _ mw_49) (hts _ mw_42) (hts _ mw_43) rfl (by rw [hml]; exact hl.1) rfl dX8_init_1 (Nat.le_of_ble_eq_true rfl) (Nat.le_of_ble_eq_true rfl) ?_
  refine W.eq (g2 := F0 m 4 ls []) rfl ?_
  refine lv_aload_n hx hb dX8_init_4 rfl (lv_at hl 0 rfl) ?_
  refine lv_bipush (v := 48) hx hb dX8_init_5 (by decide) ?_
  refine va_newa (atype := .int) (ty := .int) (a0 := (48, .inl (fun _ => 0))) hx hb (hts _ mw_79) rfl hK hP hD hS hA (fun _ => rfl) (by decide) (by decide) (Nat.le_of_ble_eq_true rfl) (Nat.le_of_ble_eq_true rfl) (Nat.le_of_ble_eq_true rfl) dX8_init_7 (fun q7 cA H hK9 hP hD hS => ?_)
  obtain rfl : cI = cA := cls_int hK9 0 2 rfl rfl
  clear hK9
  refine W.widen (k := 1) (n := 48) (Nat.le_of_ble_eq_true rfl) (Nat.le_of_ble_eq_true rfl) ?_
  replace hP : va_P D vwCl [(h0, .inr (8, [.null, .null, .null, .int 0, .int 0, .int 0, .int 0])), (q7, .inl (cI, 48, .inl (fun _ => 0)))] H := hP
  replace hD : va_D A [(h0, .inr (8, [.null, .null, .null, .int 0, .int 0, .int 0, .int 0])), (q7, .inl (cI, 48, .inl (fun _ => 0)))] := hD
  refine va_putF (D := D) (ci := 8) (v := .ref q7) (ty := (.array .int)) (C := RX8) (T := TX8) (N := 7) hx hb hts iX8 tyX8 tyX8_ok nmX8 hown hK hP hD hS 0 rfl rfl 0 (by decide) hf9 (fun _ h9 => h9) rfl hin rfl (by decide +kernel) rfl rfl (Nat.le_of_ble_eq_true rfl) dX8_init_9 (fun H locs hP hD hS => ?_)
  replace hP : va_P D vwCl [(h0, .inr (8, [.ref q7, .null, .null, .int 0, .int 0, .int 0, .int 0])), (q7, .inl (cI, 48, .inl (fun _ => 0)))] H := hP
  replace hD : va_D A [(h0, .inr (8, [.ref q7, .null, .null, .int 0, .int 0, .int 0, .int 0])), (q7, .inl (cI, 48, .inl (fun _ => 0)))] := hD
  refine lv_aload_n hx hb dX8_init_12 rfl (lv_at hl 0 rfl) ?_
  refine lv_bipush (v := 48) hx hb dX8_init_13 (by decide) ?_
  refine va_newa (atype := .boolean) (ty := .boolean) (a0 := (48, .inl (fun _ => 0))) hx hb (hts _ mw_80) rfl hK hP hD hS hA (fun _ => rfl) (by decide) (by decide) (Nat.le_of_ble_eq_true rfl) (Nat.le_of_ble_eq_true rfl) (Nat.le_of_ble_eq_true rfl) dX8_init_15 (fun q15 cA H hK9 hP hD hS => ?_)
  obtain rfl : cZ = cA := cls_bool hK9 1 2 rfl rfl
  clear hK9
  refine W.widen (k := 2) (n := 96) (Nat.le_of_ble_eq_true rfl) (Nat.le_of_ble_eq_true rfl) ?_
  replace hP : va_P D vwCl [(h0, .inr (8, [.ref q7, .null, .null, .int 0, .int 0, .int 0, .int 0])), (q7, .inl (cI, 48, .inl (fun _ => 0))), (q15, .inl (cZ, 48, .inl (fun _ => 0)))] H := hP
  replace hD : va_D A [(h0, .inr (8, [.ref q7, .null, .null, .int 0, .int 0, .int 0, .int 0])), (q7, .inl (cI, 48, .inl (fun _ => 0))), (q15, .inl (cZ, 48, .inl (fun _ => 0)))] := hD
  refine va_putF (D := D) (ci := 8) (v := .ref q15) (ty := (.array .boolean)) (C := RX8) (T := TX8) (N := 7) hx hb hts iX8 tyX8 tyX8_ok nmX8 hown hK hP hD hS 0 rfl rfl 1 (by decide) hf15 (fun _ h9 => h9) rfl hin rfl (by decide +kernel) rfl rfl (Nat.le_of_ble_eq_true rfl) dX8_init_17 (fun H locs hP hD hS => ?_)
  replace hP : va_P D vwCl [(h0, .inr (8, [.ref q7, .ref q15, .null, .int 0, .int 0, .int 0, .int 0])), (q7, .inl (cI, 48, .inl (fun _ => 0))), (q15, .inl (cZ, 48, .inl (fun _ => 0)))] H := hP
  replace hD : va_D A [(h0, .inr (8, [.ref q7, .ref q15, .null, .int 0, .int 0, .int 0, .int 0])), (q7, .inl (cI, 48, .inl (fun _ => 0))), (q15, .inl (cZ, 48, .inl (fun _ => 0)))] := hD
  refine lv_aload_n hx hb dX8_init_20 rfl (lv_at hl 0 rfl) ?_
  refine lv_bipush (v := 12) hx hb dX8_init_21 (by decide) ?_
  refine va_newa (atype := .boolean) (ty := .boolean) (a0 := (12, .inl (fun _ => 0))) hx hb (hts _ mw_80) rfl hK hP hD hS hA (fun _ => rfl) (by decide) (by decide) (Nat.le_of_ble_eq_true rfl) (Nat.le_of_ble_eq_true rfl) (Nat.le_of_ble_eq_true rfl) dX8_init_23 (fun q23 cA H hK9 hP hD hS => ?_)
  obtain rfl : cZ = cA := cls_bool hK9 1 2 rfl rfl
  clear hK9
  refine W.widen (k := 3) (n := 108) (Nat.le_of_ble_eq_true rfl) (Nat.le_of_ble_eq_true rfl) ?_
  replace hP : va_P D vwCl [(h0, .inr (8, [.ref q7, .ref q15, .null, .int 0, .int 0, .int 0, .int 0])), (q7, .inl (cI, 48, .inl (fun _ => 0))), (q15, .inl (cZ, 48, .inl (fun _ => 0))), (q23, .inl (cZ, 12, .inl (fun _ => 0)))] H := hP
  replace hD : va_D A [(h0, .inr (8, [.ref q7, .ref q15, .null, .int 0, .int 0, .int 0, .int 0])), (q7, .inl (cI, 48, .inl (fun _ => 0))), (q15, .inl (cZ, 48, .inl (fun _ => 0))), (q23, .inl (cZ, 12, .inl (fun _ => 0)))] := hD
  refine va_putF (D := D) (ci := 8) (v := .ref q23) (ty := (.array .boolean)) (C := RX8) (T := TX8) (N := 7) hx hb hts iX8 tyX8 tyX8_ok nmX8 hown hK hP hD hS 0 rfl rfl 2 (by decide) hf19 (fun _ h9 => h9) rfl hin rfl (by decide +kernel) rfl rfl (Nat.le_of_ble_eq_true rfl) dX8_init_25 (fun H locs hP hD hS => ?_)
  replace hP : va_P D vwCl [(h0, .inr (8, [.ref q7, .ref q15, .ref q23, .int 0, .int 0, .int 0, .int 0])), (q7, .inl (cI, 48, .inl (fun _ => 0))), (q15, .inl (cZ, 48, .inl (fun _ => 0))), (q23, .inl (cZ, 12, .inl (fun _ => 0)))] H := hP
  replace hD : va_D A [(h0, .inr (8, [.ref q7, .ref q15, .ref q23, .int 0, .int 0, .int 0, .int 0])), (q7, .inl (cI, 48, .inl (fun _ => 0))), (q15, .inl (cZ, 48, .inl (fun _ => 0))), (q23, .inl (cZ, 12, .inl (fun _ => 0)))] := hD
  refine lv_aload_n hx hb dX8_init_28 rfl (lv_at hl 0 rfl) ?_
  refine lv_iconst (v := 0) hx hb dX8_init_29 (by decide) ?_
  refine va_put (D := D) (ci := 8) (v := .int 0) (ty := .int) (C := RX8) (T := TX8) (N := 7) hx hb hts iX8 tyX8 tyX8_ok nmX8 hown hK hP hD hS 0 rfl rfl 3 (by decide) hf22 (fun _ h9 => h9) rfl (by decide +kernel) rfl rfl (Nat.le_of_ble_eq_true rfl) dX8_init_30 (fun H locs hP hD hS => ?_)
  replace hP : va_P D vwCl [(h0, .inr (8, [.ref q7, .ref q15, .ref q23, .int 0, .int 0, .int 0, .int 0])), (q7, .inl (cI, 48, .inl (fun _ => 0))), (q15, .inl (cZ, 48, .inl (fun _ => 0))), (q23, .inl (cZ, 12, .inl (fun _ => 0)))] H := hP
  replace hD : va_D A [(h0, .inr (8, [.ref q7, .ref q15, .ref q23, .int 0, .int 0, .int 0, .int 0])), (q7, .inl (cI, 48, .inl (fun _ => 0))), (q15, .inl (cZ, 48, .inl (fun _ => 0))), (q23, .inl (cZ, 12, .inl (fun _ => 0)))] := hD
  refine lv_aload_n hx hb dX8_init_33 rfl (lv_at hl 0 rfl) ?_
  refine lv_iconst (v := 0) hx hb dX8_init_34 (by decide) ?_
  refine va_put (D := D) (ci := 8) (v := .int 0) (ty := .int) (C := RX8) (T := TX8) (N := 7) hx hb hts iX8 tyX8 tyX8_ok nmX8 hown hK hP hD hS 0 rfl rfl 4 (by decide) hf26 (fun _ h9 => h9) rfl (by decide +kernel) rfl rfl (Nat.le_of_ble_eq_true rfl) dX8_init_35 (fun H locs hP hD hS => ?_)
  replace hP : va_P D vwCl [(h0, .inr (8, [.ref q7, .ref q15, .ref q23, .int 0, .int 0, .int 0, .int 0])), (q7, .inl (cI, 48, .inl (fun _ => 0))), (q15, .inl (cZ, 48, .inl (fun _ => 0))), (q23, .inl (cZ, 12, .inl (fun _ => 0)))] H := hP
  replace hD : va_D A [(h0, .inr (8, [.ref q7, .ref q15, .ref q23, .int 0, .int 0, .int 0, .int 0])), (q7, .inl (cI, 48, .inl (fun _ => 0))), (q15, .inl (cZ, 48, .inl (fun _ => 0))), (q23, .inl (cZ, 12, .inl (fun _ => 0)))] := hD
  refine lv_aload_n hx hb dX8_init_38 rfl (lv_at hl 0 rfl) ?_
  refine lv_iconst (v := 0) hx hb dX8_init_39 (by decide) ?_
  refine va_put (D := D) (ci := 8) (v := .int 0) (ty := .int) (C := RX8) (T := TX8) (N := 7) hx hb hts iX8 tyX8 tyX8_ok nmX8 hown hK hP hD hS 0 rfl rfl 5 (by decide) hf29 (fun _ h9 => h9) rfl (by decide +kernel) rfl rfl (Nat.le_of_ble_eq_true rfl) dX8_init_40 (fun H locs hP hD hS => ?_)
  replace hP : va_P D vwCl [(h0, .inr (8, [.ref q7, .ref q15, .ref q23, .int 0, .int 0, .int 0, .int 0])), (q7, .inl (cI, 48, .inl (fun _ => 0))), (q15, .inl (cZ, 48, .inl (fun _ => 0))), (q23, .inl (cZ, 12, .inl (fun _ => 0)))] H := hP
  replace hD : va_D A [(h0, .inr (8, [.ref q7, .ref q15, .ref q23, .int 0, .int 0, .int 0, .int 0])), (q7, .inl (cI, 48, .inl (fun _ => 0))), (q15, .inl (cZ, 48, .inl (fun _ => 0))), (q23, .inl (cZ, 12, .inl (fun _ => 0)))] := hD
  refine lv_aload_n hx hb dX8_init_43 rfl (lv_at hl 0 rfl) ?_
  refine lv_iconst (v := 0) hx hb dX8_init_44 (by decide) ?_
  refine va_put (D := D) (ci := 8) (v := .int 0) (ty := .int) (C := RX8) (T := TX8) (N := 7) hx hb hts iX8 tyX8 tyX8_ok nmX8 hown hK hP hD hS 0 rfl rfl 6 (by decide) hf32 (fun _ h9 => h9) rfl (by decide +kernel) rfl rfl (Nat.le_of_ble_eq_true rfl) dX8_init_45 (fun H locs hP hD hS => ?_)
  replace hP : va_P D vwCl [(h0, .inr (8, [.ref q7, .ref q15, .ref q23, .int 0, .int 0, .int 0, .int 0])), (q7, .inl (cI, 48, .inl (fun _ => 0))), (q15, .inl (cZ, 48, .inl (fun _ => 0))), (q23, .inl (cZ, 12, .inl (fun _ => 0)))] H := hP
  replace hD : va_D A [(h0, .inr (8, [.ref q7, .ref q15, .ref q23, .int 0, .int 0, .int 0, .int 0])), (q7, .inl (cI, 48, .inl (fun _ => 0))), (q15, .inl (cZ, 48, .inl (fun _ => 0))), (q23, .inl (cZ, 12, .inl (fun _ => 0)))] := hD
  exact cc_cret (fun k => ([h0, q7, q15, q23] : List Nat).getD k 0) hx hb hr hQ hK rfl rfl (hP.sub [0, 1, 2, 3] rfl) (hD.sub [0, 1, 2, 3] (by decide) rfl) hS dX8_init_48 hlocks

def rc_X1 : Room := { frames := 1, cells := 2, slots := 24, locals := 14 }
set_option maxHeartbeats 4000000 in
set_option maxRecDepth 100000 in
theorem kc_X1 (l : Launch) (D : va_G) (cI cZ : ClassId) (h0 : Nat) : MC l yX1_init (wm yX1_init cX1_init 1 none) rc_X1 D [(cI, .int), (cZ, .boolean)] [(h0, .inr (1, [.null, .null]))] (fun ad => [(ad 0, .inr (1, [.ref (ad 1), .ref (ad 2)])), (ad 1, .inl (cI, 12, .inl (fun _ => 0))), (ad 2, .inl (cI, 12, .inl (fun _ => 0)))]) h0 2 24 := by
  intro sz
  refine Met.ofW (cc := cX1_init) (maxL := 1) (ret := none) (by decide) rfl ?_
  intro p e s m args below meth c s₁ B hml hv
  obtain ⟨rfl, hsz, hP, hK, hD0, hZ⟩ := hv
  have hx := B.exec
  have hb := B.bytes
  have hr := B.returns
  have hts : ∀ w ∈ Wall, w.before _ s = true := fun w hw => atoms_spec (ws := wm yX1_init cX1_init 1 none) B.pre w (List.mem_cons_of_mem _ hw)
  have hown : s.vm.findClass RX1 = some m.cls := findClass_of_methodNamed B.named
  have hlocks := B.notSynchronized
  have hin : meth.name = "<init>" := (name_of_methodNamed B.named B.method).1
  subst hsz
  have hD := hD0.self (sz := s.heap.size)
  generalize hAe : va_A [(h0, .inr (1, [.null, .null]))] s.heap.size = A at hD hZ ⊢
  have hA : ∀ q : Nat, s.heap.size ≤ q → A q := fun q h => by rw [← hAe]; exact Or.inr h
  have hS : va_S A s.heap s.heap [] := va_S.rf
  have hf9 := hts _ mw_87
  have hf15 := hts _ mw_89
  have hl := lv_entry ([.ref h0]) (n := 1) (Nat.le_of_ble_eq_true rfl)
  rw [lg_entry_eq]
  generalize (lg_sl ([.ref h0]) ++ List.replicate (1 - (lg_sl ([.ref h0])).length) Slot.unset).toArray = ls at hl ⊢
  replace hl : lv_has ls 1 [(0, .ref h0)] := hl
  refine w_gen (fun Q hQ => ?_)
  refine lv_aload_n hx hb dX1_init_0 rfl (lv_at hl 0 rfl) ?_
  refine W.objInit hx hb hown (hts _ mw_86) (hts _ mw_42) (hts _ mw_43) rfl (by rw [hml]; exact hl.1) rfl dX1_init_1 (Nat.le_of_ble_eq_true rfl) (Nat.le_of_ble_eq_true rfl) ?_
  refine W.eq (g2 := F0 m 4 ls []) rfl ?_
  refine lv_aload_n hx hb dX1_init_4 rfl (lv_at hl 0 rfl) ?_
  refine lv_bipush (v := 12) hx hb dX1_init_5 (by decide) ?_
  refine va_newa (atype := .int) (ty := .int) (a0 := (12, .inl (fun _ => 0))) hx hb (hts _ mw_79) rfl hK hP hD hS hA (fun _ => rfl) (by decide) (by decide) (Nat.le_of_ble_eq_true rfl) (Nat.le_of_ble_eq_true rfl) (Nat.le_of_ble_eq_true rfl) dX1_init_7 (fun q7 cA H hK9 hP hD hS => ?_)
  obtain rfl : cI = cA := cls_int hK9 0 2 rfl rfl
  clear hK9
  refine W.widen (k := 1) (n := 12) (Nat.le_of_ble_eq_true rfl) (Nat.le_of_ble_eq_true rfl) ?_
  replace hP : va_P D vwCl [(h0, .inr (1, [.null, .null])), (q7, .inl (cI, 12, .inl (fun _ => 0)))] H := hP
  replace hD : va_D A [(h0, .inr (1, [.null, .null])), (q7, .inl (cI, 12, .inl (fun _ => 0)))] := hD
  refine va_putF (D := D) (ci := 1) (v := .ref q7) (ty := (.array .int)) (C := RX1) (T := TX1) (N := 2) hx hb hts iX1 tyX1 tyX1_ok nmX1 hown hK hP hD hS 0 rfl rfl 0 (by decide) hf9 (fun _ h9 => h9) rfl hin rfl (by decide +kernel) rfl rfl (Nat.le_of_ble_eq_true rfl) dX1_init_9 (fun H locs hP hD hS => ?_)
  replace hP : va_P D vwCl [(h0, .inr (1, [.ref q7, .null])), (q7, .inl (cI, 12, .inl (fun _ => 0)))] H := hP
  replace hD : va_D A [(h0, .inr (1, [.ref q7, .null])), (q7, .inl (cI, 12, .inl (fun _ => 0)))] := hD
  refine lv_aload_n hx hb dX1_init_12 rfl (lv_at hl 0 rfl) ?_
  refine lv_bipush (v := 12) hx hb dX1_init_13 (by decide) ?_
  refine va_newa (atype := .int) (ty := .int) (a0 := (12, .inl (fun _ => 0))) hx hb (hts _ mw_79) rfl hK hP hD hS hA (fun _ => rfl) (by decide) (by decide) (Nat.le_of_ble_eq_true rfl) (Nat.le_of_ble_eq_true rfl) (Nat.le_of_ble_eq_true rfl) dX1_init_15 (fun q15 cA H hK9 hP hD hS => ?_)
  obtain rfl : cI = cA := cls_int hK9 0 2 rfl rfl
  clear hK9
  refine W.widen (k := 2) (n := 24) (Nat.le_of_ble_eq_true rfl) (Nat.le_of_ble_eq_true rfl) ?_
  replace hP : va_P D vwCl [(h0, .inr (1, [.ref q7, .null])), (q7, .inl (cI, 12, .inl (fun _ => 0))), (q15, .inl (cI, 12, .inl (fun _ => 0)))] H := hP
  replace hD : va_D A [(h0, .inr (1, [.ref q7, .null])), (q7, .inl (cI, 12, .inl (fun _ => 0))), (q15, .inl (cI, 12, .inl (fun _ => 0)))] := hD
  refine va_putF (D := D) (ci := 1) (v := .ref q15) (ty := (.array .int)) (C := RX1) (T := TX1) (N := 2) hx hb hts iX1 tyX1 tyX1_ok nmX1 hown hK hP hD hS 0 rfl rfl 1 (by decide) hf15 (fun _ h9 => h9) rfl hin rfl (by decide +kernel) rfl rfl (Nat.le_of_ble_eq_true rfl) dX1_init_17 (fun H locs hP hD hS => ?_)
  replace hP : va_P D vwCl [(h0, .inr (1, [.ref q7, .ref q15])), (q7, .inl (cI, 12, .inl (fun _ => 0))), (q15, .inl (cI, 12, .inl (fun _ => 0)))] H := hP
  replace hD : va_D A [(h0, .inr (1, [.ref q7, .ref q15])), (q7, .inl (cI, 12, .inl (fun _ => 0))), (q15, .inl (cI, 12, .inl (fun _ => 0)))] := hD
  exact cc_cret (fun k => ([h0, q7, q15] : List Nat).getD k 0) hx hb hr hQ hK rfl rfl (hP.sub [0, 1, 2] rfl) (hD.sub [0, 1, 2] (by decide) rfl) hS dX1_init_20 hlocks

def rc_X7 : Room := { frames := 1, cells := 3, slots := 36, locals := 14 }
def u0_X7 : I7 := ((fun _ => 0), (fun _ => 0), (fun _ => 0), (0 : Int32))
set_option maxHeartbeats 4000000 in
set_option maxRecDepth 100000 in
theorem kc_X7 (l : Launch) (D : va_G) (cI cZ : ClassId) (h0 : Nat) (w' : I7) (h : g_X7_init2 (u0_X7) = some w') : MC l yX7_init (wm yX7_init cX7_init 2 none) rc_X7 D [(cI, .int), (cZ, .boolean)] [(h0, .inr (7, [.null, .null, .null, .int 0]))] (fun ad => w_X7 cI cZ ad w') h0 3 36 := by
  intro sz
  refine Met.ofW (cc := cX7_init) (maxL := 2) (ret := none) (by decide) rfl ?_
  intro p e s m args below meth c s₁ B hml hv
  obtain ⟨rfl, hsz, hP, hK, hD0, hZ⟩ := hv
  have hx := B.exec
  have hb := B.bytes
  have hr := B.returns
  have hts : ∀ w ∈ Wall, w.before _ s = true := fun w hw => atoms_spec (ws := wm yX7_init cX7_init 2 none) B.pre w (List.mem_cons_of_mem _ hw)
  have hown : s.vm.findClass RX7 = some m.cls := findClass_of_methodNamed B.named
  have hlocks := B.notSynchronized
  have hin : meth.name = "<init>" := (name_of_methodNamed B.named B.method).1
  subst hsz
  have hD := hD0.self (sz := s.heap.size)
  generalize hAe : va_A [(h0, .inr (7, [.null, .null, .null, .int 0]))] s.heap.size = A at hD hZ ⊢
  have hA : ∀ q : Nat, s.heap.size ≤ q → A q := fun q h => by rw [← hAe]; exact Or.inr h
  have hS : va_S A s.heap s.heap [] := va_S.rf
  have hf9 := hts _ mw_102
  have hf15 := hts _ mw_104
  have hf18 := hts _ mw_106
  have hf21 := hts _ mw_107
  have hl := lv_entry ([.ref h0]) (n := 2) (Nat.le_of_ble_eq_true rfl)
  rw [lg_entry_eq]
  generalize (lg_sl ([.ref h0]) ++ List.replicate (2 - (lg_sl ([.ref h0])).length) Slot.unset).toArray = ls at hl ⊢
  replace hl : lv_has ls 2 [(0, .ref h0)] := hl
  refine w_gen (fun Q hQ => ?_)
  refine lv_aload_n hx hb dX7_init_0 rfl (lv_at hl 0 rfl) ?_
  refine W.objInit hx hb hown (hts _ mw_101) (hts _ mw_42) (hts _ mw_43) rfl (by rw [hml]; exact hl.1) rfl dX7_init_1 (Nat.le_of_ble_eq_true rfl) (Nat.le_of_ble_eq_true rfl) ?_
  refine W.eq (g2 := F0 m 4 ls []) rfl ?_
  refine lv_aload_n hx hb dX7_init_4 rfl (lv_at hl 0 rfl) ?_
  refine lv_bipush (v := 12) hx hb dX7_init_5 (by decide) ?_
  refine va_newa (atype := .int) (ty := .int) (a0 := (12, .inl (fun _ => 0))) hx hb (hts _ mw_79) rfl hK hP hD hS hA (fun _ => rfl) (by decide) (by decide) (Nat.le_of_ble_eq_true rfl) (Nat.le_of_ble_eq_true rfl) (Nat.le_of_ble_eq_true rfl) dX7_init_7 (fun q7 cA H hK9 hP hD hS => ?_)
  obtain rfl : cI = cA := cls_int hK9 0 2 rfl rfl
  clear hK9
  refine W.widen (k := 1) (n := 12) (Nat.le_of_ble_eq_true rfl) (Nat.le_of_ble_eq_true rfl) ?_
  replace hP : va_P D vwCl [(h0, .inr (7, [.null, .null, .null, .int 0])), (q7, .inl (cI, 12, .inl (fun _ => 0)))] H := hP
  replace hD : va_D A [(h0, .inr (7, [.null, .null, .null, .int 0])), (q7, .inl (cI, 12, .inl (fun _ => 0)))] := hD
  refine va_putF (D := D) (ci := 7) (v := .ref q7) (ty := (.array .int)) (C := RX7) (T := TX7) (N := 4) hx hb hts iX7 tyX7 tyX7_ok nmX7 hown hK hP hD hS 0 rfl rfl 0 (by decide) hf9 (fun _ h9 => h9) rfl hin rfl (by decide +kernel) rfl rfl (Nat.le_of_ble_eq_true rfl) dX7_init_9 (fun H locs hP hD hS => ?_)
  replace hP : va_P D vwCl [(h0, .inr (7, [.ref q7, .null, .null, .int 0])), (q7, .inl (cI, 12, .inl (fun _ => 0)))] H := hP
  replace hD : va_D A [(h0, .inr (7, [.ref q7, .null, .null, .int 0])), (q7, .inl (cI, 12, .inl (fun _ => 0)))] := hD
  refine lv_aload_n hx hb dX7_init_12 rfl (lv_at hl 0 rfl) ?_
  refine lv_bipush (v := 12) hx hb dX7_init_13 (by decide) ?_
  refine va_newa (atype := .int) (ty := .int) (a0 := (12, .inl (fun _ => 0))) hx hb (hts _ mw_79) rfl hK hP hD hS hA (fun _ => rfl) (by decide) (by decide) (Nat.le_of_ble_eq_true rfl) (Nat.le_of_ble_eq_true rfl) (Nat.le_of_ble_eq_true rfl) dX7_init_15 (fun q15 cA H hK9 hP hD hS => ?_)
  obtain rfl : cI = cA := cls_int hK9 0 2 rfl rfl
  clear hK9
  refine W.widen (k := 2) (n := 24) (Nat.le_of_ble_eq_true rfl) (Nat.le_of_ble_eq_true rfl) ?_
  replace hP : va_P D vwCl [(h0, .inr (7, [.ref q7, .null, .null, .int 0])), (q7, .inl (cI, 12, .inl (fun _ => 0))), (q15, .inl (cI, 12, .inl (fun _ => 0)))] H := hP
  replace hD : va_D A [(h0, .inr (7, [.ref q7, .null, .null, .int 0])), (q7, .inl (cI, 12, .inl (fun _ => 0))), (q15, .inl (cI, 12, .inl (fun _ => 0)))] := hD
  refine va_putF (D := D) (ci := 7) (v := .ref q15) (ty := (.array .int)) (C := RX7) (T := TX7) (N := 4) hx hb hts iX7 tyX7 tyX7_ok nmX7 hown hK hP hD hS 0 rfl rfl 1 (by decide) hf15 (fun _ h9 => h9) rfl hin rfl (by decide +kernel) rfl rfl (Nat.le_of_ble_eq_true rfl) dX7_init_17 (fun H locs hP hD hS => ?_)
  replace hP : va_P D vwCl [(h0, .inr (7, [.ref q7, .ref q15, .null, .int 0])), (q7, .inl (cI, 12, .inl (fun _ => 0))), (q15, .inl (cI, 12, .inl (fun _ => 0)))] H := hP
  replace hD : va_D A [(h0, .inr (7, [.ref q7, .ref q15, .null, .int 0])), (q7, .inl (cI, 12, .inl (fun _ => 0))), (q15, .inl (cI, 12, .inl (fun _ => 0)))] := hD
  refine lv_aload_n hx hb dX7_init_20 rfl (lv_at hl 0 rfl) ?_
  refine lv_bipush (v := 12) hx hb dX7_init_21 (by decide) ?_
  refine va_newa (atype := .int) (ty := .int) (a0 := (12, .inl (fun _ => 0))) hx hb (hts _ mw_79) rfl hK hP hD hS hA (fun _ => rfl) (by decide) (by decide) (Nat.le_of_ble_eq_true rfl) (Nat.le_of_ble_eq_true rfl) (Nat.le_of_ble_eq_true rfl) dX7_init_23 (fun q23 cA H hK9 hP hD hS => ?_)
  obtain rfl : cI = cA := cls_int hK9 0 2 rfl rfl
  clear hK9
  refine W.widen (k := 3) (n := 36) (Nat.le_of_ble_eq_true rfl) (Nat.le_of_ble_eq_true rfl) ?_
  replace hP : va_P D vwCl [(h0, .inr (7, [.ref q7, .ref q15, .null, .int 0])), (q7, .inl (cI, 12, .inl (fun _ => 0))), (q15, .inl (cI, 12, .inl (fun _ => 0))), (q23, .inl (cI, 12, .inl (fun _ => 0)))] H := hP
  replace hD : va_D A [(h0, .inr (7, [.ref q7, .ref q15, .null, .int 0])), (q7, .inl (cI, 12, .inl (fun _ => 0))), (q15, .inl (cI, 12, .inl (fun _ => 0))), (q23, .inl (cI, 12, .inl (fun _ => 0)))] := hD
  refine va_putF (D := D) (ci := 7) (v := .ref q23) (ty := (.array .int)) (C := RX7) (T := TX7) (N := 4) hx hb hts iX7 tyX7 tyX7_ok nmX7 hown hK hP hD hS 0 rfl rfl 2 (by decide) hf18 (fun _ h9 => h9) rfl hin rfl (by decide +kernel) rfl rfl (Nat.le_of_ble_eq_true rfl) dX7_init_25 (fun H locs hP hD hS => ?_)
  replace hP : va_P D vwCl [(h0, .inr (7, [.ref q7, .ref q15, .ref q23, .int 0])), (q7, .inl (cI, 12, .inl (fun _ => 0))), (q15, .inl (cI, 12, .inl (fun _ => 0))), (q23, .inl (cI, 12, .inl (fun _ => 0)))] H := hP
  replace hD : va_D A [(h0, .inr (7, [.ref q7, .ref q15, .ref q23, .int 0])), (q7, .inl (cI, 12, .inl (fun _ => 0))), (q15, .inl (cI, 12, .inl (fun _ => 0))), (q23, .inl (cI, 12, .inl (fun _ => 0)))] := hD
  refine lv_aload_n hx hb dX7_init_28 rfl (lv_at hl 0 rfl) ?_
  refine lv_iconst (v := 0) hx hb dX7_init_29 (by decide) ?_
  refine va_put (D := D) (ci := 7) (v := .int 0) (ty := .int) (C := RX7) (T := TX7) (N := 4) hx hb hts iX7 tyX7 tyX7_ok nmX7 hown hK hP hD hS 0 rfl rfl 3 (by decide) hf21 (fun _ h9 => h9) rfl (by decide +kernel) rfl rfl (Nat.le_of_ble_eq_true rfl) dX7_init_30 (fun H locs hP hD hS => ?_)
  replace hP : va_P D vwCl [(h0, .inr (7, [.ref q7, .ref q15, .ref q23, .int 0])), (q7, .inl (cI, 12, .inl (fun _ => 0))), (q15, .inl (cI, 12, .inl (fun _ => 0))), (q23, .inl (cI, 12, .inl (fun _ => 0)))] H := hP
  replace hD : va_D A [(h0, .inr (7, [.ref q7, .ref q15, .ref q23, .int 0])), (q7, .inl (cI, 12, .inl (fun _ => 0))), (q15, .inl (cI, 12, .inl (fun _ => 0))), (q23, .inl (cI, 12, .inl (fun _ => 0)))] := hD
  obtain ⟨ad, ead⟩ : ∃ z : Nat → Nat, z = (fun k => ([h0, q7, q15, q23] : List Nat).getD k 0) := ⟨_, rfl⟩
  have had0 : ad 0 = h0 := by rw [ead]; rfl
  replace hP : va_P D vwCl (w_X7 cI cZ ad (u0_X7)) H := by rw [ead]; exact hP.sub [0, 1, 2, 3] rfl
  replace hD : va_D A (w_X7 cI cZ ad (u0_X7)) := by rw [ead]; exact hD.sub [0, 1, 2, 3] (by decide) rfl
  replace hl : lv_has ls 2 [(0, .ref (ad 0))] := by rw [had0]; exact hl
  generalize u0_X7 = u at h hP hD
  refine lv_iconst (v := 0) hx hb dX7_init_33 (by decide) ?_
  refine lv_istore_n (lv' := [(1, .int (0 : Int32)), (0, .ref (ad 0))]) hx hb dX7_init_34 rfl hl (by decide) rfl (fun ls hl => ?_)
  have hL35 : ∀ (k : I7 → Option I7) (hk : ∀ (w35 : I7) (H : Heap) (locs : List Loc) (ls : Array Slot), k w35 = some w' → va_P D vwCl (w_X7 cI cZ ad w35) H → va_D A (w_X7 cI cZ ad w35) → va_S A s.heap H locs → lv_has ls 2 [] → W p l e rc_X7 s m ([.ref h0] : List Value).toArray below meth c H locs 3 36 Q (F0 m 71 ls [])) (n : Nat) (x1_35 : Int32) (w35 : I7) (H : Heap) (locs : List Loc) (ls : Array Slot), lp_X7_init2_35 k n x1_35 w35 = some w' → va_P D vwCl (w_X7 cI cZ ad w35) H → va_D A (w_X7 cI cZ ad w35) → va_S A s.heap H locs → lv_has ls 2 [(0, .ref (ad 0)), (1, .int x1_35)] → W p l e rc_X7 s m ([.ref h0] : List Value).toArray below meth c H locs 3 36 Q (F0 m 35 ls []) := by
    intro k hk n
    induction n with
    | zero =>
      intro x1_35 w35 H locs ls h
      rw [lp_X7_init2_35] at h
      cases h
    | succ n ih =>
      intro x1_35 w35 H locs ls h hP hD hS hl
      rw [lp_X7_init2_35] at h
      refine lv_iload_n hx hb dX7_init_35 rfl (lv_at hl 1 rfl) ?_
      refine lv_bipush (v := 12) hx hb dX7_init_36 (by decide) ?_
      refine lv_icmp_ge (tgt := 71) hx hb dX7_init_38 (by decide) (fun c1 => ?_) (fun c1 => ?_)
      · replace h := gx_t c1 h
        exact hk w35 _ _ _ h hP hD hS (lv_sub hl [] rfl)
      · replace h := gx_f c1 h
        refine lv_aload_n hx hb dX7_init_41 rfl (lv_at hl 0 rfl) ?_
        refine va_get (D := D) (ci := 7) (v := .ref (ad 1)) (C := RX7) (T := TX7) (N := 4) hx hb hts iX7 hown hK hP 0 rfl rfl 0 (by decide) hf9 (fun _ h9 => h9) rfl dX7_init_42 ?_
        refine lv_iload_n hx hb dX7_init_45 rfl (lv_at hl 1 rfl) ?_
        refine lv_iconst (v := (-1)) hx hb dX7_init_46 (by decide) ?_
        obtain ⟨b2, h⟩ := gx_in h
        refine va_iast (D := D) hx hb hK hP hD hS 1 0 rfl rfl b2 dX7_init_47 (fun H locs hP hD hS => ?_)
        obtain ⟨u3, eu3, h⟩ := gx_let h
        replace hP : va_P D vwCl (w_X7 cI cZ ad u3) H := by rw [← eu3]; exact hP
        replace hD : va_D A (w_X7 cI cZ ad u3) := by rw [← eu3]; exact hD
        refine lv_aload_n hx hb dX7_init_48 rfl (lv_at hl 0 rfl) ?_
        refine va_get (D := D) (ci := 7) (v := .ref (ad 2)) (C := RX7) (T := TX7) (N := 4) hx hb hts iX7 hown hK hP 0 rfl rfl 1 (by decide) hf15 (fun _ h9 => h9) rfl dX7_init_49 ?_
        refine lv_iload_n hx hb dX7_init_52 rfl (lv_at hl 1 rfl) ?_
        refine lv_bipush (v := 120) hx hb dX7_init_53 (by decide) ?_
        obtain ⟨b4, h⟩ := gx_in h
        refine va_iast (D := D) hx hb hK hP hD hS 2 0 rfl rfl b4 dX7_init_55 (fun H locs hP hD hS => ?_)
        obtain ⟨u5, eu5, h⟩ := gx_let h
        replace hP : va_P D vwCl (w_X7 cI cZ ad u5) H := by rw [← eu5]; exact hP
        replace hD : va_D A (w_X7 cI cZ ad u5) := by rw [← eu5]; exact hD
        refine lv_aload_n hx hb dX7_init_56 rfl (lv_at hl 0 rfl) ?_
        refine va_get (D := D) (ci := 7) (v := .ref (ad 3)) (C := RX7) (T := TX7) (N := 4) hx hb hts iX7 hown hK hP 0 rfl rfl 2 (by decide) hf18 (fun _ h9 => h9) rfl dX7_init_57 ?_
        refine lv_iload_n hx hb dX7_init_60 rfl (lv_at hl 1 rfl) ?_
        refine lv_sipush (v := (-1000)) hx hb dX7_init_61 (by decide) ?_
        obtain ⟨b6, h⟩ := gx_in h
        refine va_iast (D := D) hx hb hK hP hD hS 3 0 rfl rfl b6 dX7_init_64 (fun H locs hP hD hS => ?_)
        obtain ⟨u7, eu7, h⟩ := gx_let h
        replace hP : va_P D vwCl (w_X7 cI cZ ad u7) H := by rw [← eu7]; exact hP
        replace hD : va_D A (w_X7 cI cZ ad u7) := by rw [← eu7]; exact hD
        obtain ⟨v8, ev8, h⟩ := gx_let h
        refine lv_iinc (v := v8) (lv' := [(1, .int v8), (0, .ref (ad 0))]) hx hb dX7_init_65 hl (k := 1) rfl (by rw [← ev8]; rfl) (by decide) rfl (fun ls hl => ?_)
        refine lv_goto (tgt := 35) hx hb dX7_init_68 (by decide) ?_
        exact ih v8 u7 _ _ _ h hP hD hS (lv_sub hl [1, 0] rfl)
  refine hL35 _ (fun w35 H locs ls h hP hD hS hl => ?_) FU (0 : Int32) u _ _ _ h hP hD hS (lv_sub hl [1, 0] rfl)
  cases h
  exact cc_cret ad hx hb hr hQ hK had0 rfl hP hD hS dX7_init_71 hlocks

def rc_X3 : Room := { frames := 1, cells := 3, slots := 144, locals := 14 }
def u0_X3 : I3 := ((fun _ => 0), (fun _ => 0), (fun _ => 0))
set_option maxHeartbeats 4000000 in
set_option maxRecDepth 100000 in
theorem kc_X3 (l : Launch) (D : va_G) (cI cZ : ClassId) (h0 : Nat) (w' : I3) (h : g_X3_init2 (u0_X3) = some w') : MC l yX3_init (wm yX3_init cX3_init 2 none) rc_X3 D [(cI, .int), (cZ, .boolean)] [(h0, .inr (3, [.null, .null, .null]))] (fun ad => w_X3 cI cZ ad w') h0 3 144 := by
  intro sz
  refine Met.ofW (cc := cX3_init) (maxL := 2) (ret := none) (by decide) rfl ?_
  intro p e s m args below meth c s₁ B hml hv
  obtain ⟨rfl, hsz, hP, hK, hD0, hZ⟩ := hv
  have hx := B.exec
  have hb := B.bytes
  have hr := B.returns
  have hts : ∀ w ∈ Wall, w.before _ s = true := fun w hw => atoms_spec (ws := wm yX3_init cX3_init 2 none) B.pre w (List.mem_cons_of_mem _ hw)
  have hown : s.vm.findClass RX3 = some m.cls := findClass_of_methodNamed B.named
  have hlocks := B.notSynchronized
  have hin : meth.name = "<init>" := (name_of_methodNamed B.named B.method).1
  subst hsz
  have hD := hD0.self (sz := s.heap.size)
  generalize hAe : va_A [(h0, .inr (3, [.null, .null, .null]))] s.heap.size = A at hD hZ ⊢
  have hA : ∀ q : Nat, s.heap.size ≤ q → A q := fun q h => by rw [← hAe]; exact Or.inr h
  have hS : va_S A s.heap s.heap [] := va_S.rf
  have hf9 := hts _ mw_124
  have hf15 := hts _ mw_126
  have hf18 := hts _ mw_127
  have hl := lv_entry ([.ref h0]) (n := 2) (Nat.le_of_ble_eq_true rfl)
  rw [lg_entry_eq]
  generalize (lg_sl ([.ref h0]) ++ List.replicate (2 - (lg_sl ([.ref h0])).length) Slot.unset).toArray = ls at hl ⊢
  replace hl : lv_has ls 2 [(0, .ref h0)] := hl
  refine w_gen (fun Q hQ => ?_)
  refine lv_aload_n hx hb dX3_init_0 rfl (lv_at hl 0 rfl) ?_
  refine W.objInit hx hb hown (hts _ mw_123) (hts _ mw_42) (hts _ mw_43) rfl (by rw [hml]; exact hl.1) rfl dX3_init_1 (Nat.le_of_ble_eq_true rfl) (Nat.le_of_ble_eq_true rfl) ?_
  refine W.eq (g2 := F0 m 4 ls []) rfl ?_
  refine lv_aload_n hx hb dX3_init_4 rfl (lv_at hl 0 rfl) ?_
  refine lv_bipush (v := 48) hx hb dX3_init_5 (by decide) ?_
  refine va_newa (atype := .int) (ty := .int) (a0 := (48, .inl (fun _ => 0))) hx hb (hts _ mw_79) rfl hK hP hD hS hA (fun _ => rfl) (by decide) (by decide) (Nat.le_of_ble_eq_true rfl) (Nat.le_of_ble_eq_true rfl) (Nat.le_of_ble_eq_true rfl) dX3_init_7 (fun q7 cA H hK9 hP hD hS => ?_)
  obtain rfl : cI = cA := cls_int hK9 0 2 rfl rfl
  clear hK9
  refine W.widen (k := 1) (n := 48) (Nat.le_of_ble_eq_true rfl) (Nat.le_of_ble_eq_true rfl) ?_
  replace hP : va_P D vwCl [(h0, .inr (3, [.null, .null, .null])), (q7, .inl (cI, 48, .inl (fun _ => 0)))] H := hP
  replace hD : va_D A [(h0, .inr (3, [.null, .null, .null])), (q7, .inl (cI, 48, .inl (fun _ => 0)))] := hD
  refine va_putF (D := D) (ci := 3) (v := .ref q7) (ty := (.array .int)) (C := RX3) (T := TX3) (N := 3) hx hb hts iX3 tyX3 tyX3_ok nmX3 hown hK hP hD hS 0 rfl rfl 0 (by decide) hf9 (fun _ h9 => h9) rfl hin rfl (by decide +kernel) rfl rfl (Nat.le_of_ble_eq_true rfl) dX3_init_9 (fun H locs hP hD hS => ?_)
  replace hP : va_P D vwCl [(h0, .inr (3, [.ref q7, .null, .null])), (q7, .inl (cI, 48, .inl (fun _ => 0)))] H := hP
  replace hD : va_D A [(h0, .inr (3, [.ref q7, .null, .null])), (q7, .inl (cI, 48, .inl (fun _ => 0)))] := hD
  refine lv_aload_n hx hb dX3_init_12 rfl (lv_at hl 0 rfl) ?_
  refine lv_bipush (v := 48) hx hb dX3_init_13 (by decide) ?_
  refine va_newa (atype := .int) (ty := .int) (a0 := (48, .inl (fun _ => 0))) hx hb (hts _ mw_79) rfl hK hP hD hS hA (fun _ => rfl) (by decide) (by decide) (Nat.le_of_ble_eq_true rfl) (Nat.le_of_ble_eq_true rfl) (Nat.le_of_ble_eq_true rfl) dX3_init_15 (fun q15 cA H hK9 hP hD hS => ?_)
  obtain rfl : cI = cA := cls_int hK9 0 2 rfl rfl
  clear hK9
  refine W.widen (k := 2) (n := 96) (Nat.le_of_ble_eq_true rfl) (Nat.le_of_ble_eq_true rfl) ?_
  replace hP : va_P D vwCl [(h0, .inr (3, [.ref q7, .null, .null])), (q7, .inl (cI, 48, .inl (fun _ => 0))), (q15, .inl (cI, 48, .inl (fun _ => 0)))] H := hP
  replace hD : va_D A [(h0, .inr (3, [.ref q7, .null, .null])), (q7, .inl (cI, 48, .inl (fun _ => 0))), (q15, .inl (cI, 48, .inl (fun _ => 0)))] := hD
  refine va_putF (D := D) (ci := 3) (v := .ref q15) (ty := (.array .int)) (C := RX3) (T := TX3) (N := 3) hx hb hts iX3 tyX3 tyX3_ok nmX3 hown hK hP hD hS 0 rfl rfl 1 (by decide) hf15 (fun _ h9 => h9) rfl hin rfl (by decide +kernel) rfl rfl (Nat.le_of_ble_eq_true rfl) dX3_init_17 (fun H locs hP hD hS => ?_)
  replace hP : va_P D vwCl [(h0, .inr (3, [.ref q7, .ref q15, .null])), (q7, .inl (cI, 48, .inl (fun _ => 0))), (q15, .inl (cI, 48, .inl (fun _ => 0)))] H := hP
  replace hD : va_D A [(h0, .inr (3, [.ref q7, .ref q15, .null])), (q7, .inl (cI, 48, .inl (fun _ => 0))), (q15, .inl (cI, 48, .inl (fun _ => 0)))] := hD
  refine lv_aload_n hx hb dX3_init_20 rfl (lv_at hl 0 rfl) ?_
  refine lv_bipush (v := 48) hx hb dX3_init_21 (by decide) ?_
  refine va_newa (atype := .int) (ty := .int) (a0 := (48, .inl (fun _ => 0))) hx hb (hts _ mw_79) rfl hK hP hD hS hA (fun _ => rfl) (by decide) (by decide) (Nat.le_of_ble_eq_true rfl) (Nat.le_of_ble_eq_true rfl) (Nat.le_of_ble_eq_true rfl) dX3_init_23 (fun q23 cA H hK9 hP hD hS => ?_)
  obtain rfl : cI = cA := cls_int hK9 0 2 rfl rfl
  clear hK9
  refine W.widen (k := 3) (n := 144) (Nat.le_of_ble_eq_true rfl) (Nat.le_of_ble_eq_true rfl) ?_
  replace hP : va_P D vwCl [(h0, .inr (3, [.ref q7, .ref q15, .null])), (q7, .inl (cI, 48, .inl (fun _ => 0))), (q15, .inl (cI, 48, .inl (fun _ => 0))), (q23, .inl (cI, 48, .inl (fun _ => 0)))] H := hP
  replace hD : va_D A [(h0, .inr (3, [.ref q7, .ref q15, .null])), (q7, .inl (cI, 48, .inl (fun _ => 0))), (q15, .inl (cI, 48, .inl (fun _ => 0))), (q23, .inl (cI, 48, .inl (fun _ => 0)))] := hD
  refine va_putF (D := D) (ci := 3) (v := .ref q23) (ty := (.array .int)) (C := RX3) (T := TX3) (N := 3) hx hb hts iX3 tyX3 tyX3_ok nmX3 hown hK hP hD hS 0 rfl rfl 2 (by decide) hf18 (fun _ h9 => h9) rfl hin rfl (by decide +kernel) rfl rfl (Nat.le_of_ble_eq_true rfl) dX3_init_25 (fun H locs hP hD hS => ?_)
  replace hP : va_P D vwCl [(h0, .inr (3, [.ref q7, .ref q15, .ref q23])), (q7, .inl (cI, 48, .inl (fun _ => 0))), (q15, .inl (cI, 48, .inl (fun _ => 0))), (q23, .inl (cI, 48, .inl (fun _ => 0)))] H := hP
  replace hD : va_D A [(h0, .inr (3, [.ref q7, .ref q15, .ref q23])), (q7, .inl (cI, 48, .inl (fun _ => 0))), (q15, .inl (cI, 48, .inl (fun _ => 0))), (q23, .inl (cI, 48, .inl (fun _ => 0)))] := hD
  obtain ⟨ad, ead⟩ : ∃ z : Nat → Nat, z = (fun k => ([h0, q7, q15, q23] : List Nat).getD k 0) := ⟨_, rfl⟩
  have had0 : ad 0 = h0 := by rw [ead]; rfl
  replace hP : va_P D vwCl (w_X3 cI cZ ad (u0_X3)) H := by rw [ead]; exact hP.sub [0, 1, 2, 3] rfl
  replace hD : va_D A (w_X3 cI cZ ad (u0_X3)) := by rw [ead]; exact hD.sub [0, 1, 2, 3] (by decide) rfl
  replace hl : lv_has ls 2 [(0, .ref (ad 0))] := by rw [had0]; exact hl
  generalize u0_X3 = u at h hP hD
  refine lv_iconst (v := 0) hx hb dX3_init_28 (by decide) ?_
  refine lv_istore_n (lv' := [(1, .int (0 : Int32)), (0, .ref (ad 0))]) hx hb dX3_init_29 rfl hl (by decide) rfl (fun ls hl => ?_)
  have hL30 : ∀ (k : I3 → Option I3) (hk : ∀ (w30 : I3) (H : Heap) (locs : List Loc) (ls : Array Slot), k w30 = some w' → va_P D vwCl (w_X3 cI cZ ad w30) H → va_D A (w_X3 cI cZ ad w30) → va_S A s.heap H locs → lv_has ls 2 [] → W p l e rc_X3 s m ([.ref h0] : List Value).toArray below meth c H locs 3 144 Q (F0 m 49 ls [])) (n : Nat) (x1_30 : Int32) (w30 : I3) (H : Heap) (locs : List Loc) (ls : Array Slot), lp_X3_init2_30 k n x1_30 w30 = some w' → va_P D vwCl (w_X3 cI cZ ad w30) H → va_D A (w_X3 cI cZ ad w30) → va_S A s.heap H locs → lv_has ls 2 [(0, .ref (ad 0)), (1, .int x1_30)] → W p l e rc_X3 s m ([.ref h0] : List Value).toArray below meth c H locs 3 144 Q (F0 m 30 ls []) := by
    intro k hk n
    induction n with
    | zero =>
      intro x1_30 w30 H locs ls h
      rw [lp_X3_init2_30] at h
      cases h
    | succ n ih =>
      intro x1_30 w30 H locs ls h hP hD hS hl
      rw [lp_X3_init2_30] at h
      refine lv_iload_n hx hb dX3_init_30 rfl (lv_at hl 1 rfl) ?_
      refine lv_bipush (v := 48) hx hb dX3_init_31 (by decide) ?_
      refine lv_icmp_ge (tgt := 49) hx hb dX3_init_33 (by decide) (fun c1 => ?_) (fun c1 => ?_)
      · replace h := gx_t c1 h
        exact hk w30 _ _ _ h hP hD hS (lv_sub hl [] rfl)
      · replace h := gx_f c1 h
        refine lv_aload_n hx hb dX3_init_36 rfl (lv_at hl 0 rfl) ?_
        refine va_get (D := D) (ci := 3) (v := .ref (ad 1)) (C := RX3) (T := TX3) (N := 3) hx hb hts iX3 hown hK hP 0 rfl rfl 0 (by decide) hf9 (fun _ h9 => h9) rfl dX3_init_37 ?_
        refine lv_iload_n hx hb dX3_init_40 rfl (lv_at hl 1 rfl) ?_
        refine lv_iconst (v := (-1)) hx hb dX3_init_41 (by decide) ?_
        obtain ⟨b2, h⟩ := gx_in h
        refine va_iast (D := D) hx hb hK hP hD hS 1 0 rfl rfl b2 dX3_init_42 (fun H locs hP hD hS => ?_)
        obtain ⟨u3, eu3, h⟩ := gx_let h
        replace hP : va_P D vwCl (w_X3 cI cZ ad u3) H := by rw [← eu3]; exact hP
        replace hD : va_D A (w_X3 cI cZ ad u3) := by rw [← eu3]; exact hD
        obtain ⟨v4, ev4, h⟩ := gx_let h
        refine lv_iinc (v := v4) (lv' := [(1, .int v4), (0, .ref (ad 0))]) hx hb dX3_init_43 hl (k := 1) rfl (by rw [← ev4]; rfl) (by decide) rfl (fun ls hl => ?_)
        refine lv_goto (tgt := 30) hx hb dX3_init_46 (by decide) ?_
        exact ih v4 u3 _ _ _ h hP hD hS (lv_sub hl [1, 0] rfl)
  refine hL30 _ (fun w30 H locs ls h hP hD hS hl => ?_) FU (0 : Int32) u _ _ _ h hP hD hS (lv_sub hl [1, 0] rfl)
  cases h
  exact cc_cret ad hx hb hr hQ hK had0 rfl hP hD hS dX3_init_49 hlocks

def rc_X6 : Room := { frames := 1, cells := 2, slots := 24, locals := 14 }
def u0_X6 : I6 := ((fun _ => 0), (fun _ => 0))
set_option maxHeartbeats 4000000 in
set_option maxRecDepth 100000 in
theorem kc_X6 (l : Launch) (D : va_G) (cI cZ : ClassId) (h0 : Nat) (w' : I6) (h : g_X6_init2 (u0_X6) = some w') : MC l yX6_init (wm yX6_init cX6_init 2 none) rc_X6 D [(cI, .int), (cZ, .boolean)] [(h0, .inr (6, [.null, .null]))] (fun ad => w_X6 cI cZ ad w') h0 2 24 := by
  intro sz
  refine Met.ofW (cc := cX6_init) (maxL := 2) (ret := none) (by decide) rfl ?_
  intro p e s m args below meth c s₁ B hml hv
  obtain ⟨rfl, hsz, hP, hK, hD0, hZ⟩ := hv
  have hx := B.exec
  have hb := B.bytes
  have hr := B.returns
  have hts : ∀ w ∈ Wall, w.before _ s = true := fun w hw => atoms_spec (ws := wm yX6_init cX6_init 2 none) B.pre w (List.mem_cons_of_mem _ hw)
  have hown : s.vm.findClass RX6 = some m.cls := findClass_of_methodNamed B.named
  have hlocks := B.notSynchronized
  have hin : meth.name = "<init>" := (name_of_methodNamed B.named B.method).1
  subst hsz
  have hD := hD0.self (sz := s.heap.size)
  generalize hAe : va_A [(h0, .inr (6, [.null, .null]))] s.heap.size = A at hD hZ ⊢
  have hA : ∀ q : Nat, s.heap.size ≤ q → A q := fun q h => by rw [← hAe]; exact Or.inr h
  have hS : va_S A s.heap s.heap [] := va_S.rf
  have hf9 := hts _ mw_142
  have hf15 := hts _ mw_143
  have hl := lv_entry ([.ref h0]) (n := 2) (Nat.le_of_ble_eq_true rfl)
  rw [lg_entry_eq]
  generalize (lg_sl ([.ref h0]) ++ List.replicate (2 - (lg_sl ([.ref h0])).length) Slot.unset).toArray = ls at hl ⊢
  replace hl : lv_has ls 2 [(0, .ref h0)] := hl
  refine w_gen (fun Q hQ => ?_)
  refine lv_aload_n hx hb dX6_init_0 rfl (lv_at hl 0 rfl) ?_
  refine W.objInit hx hb hown (hts _ mw_141) (hts _ mw_42) (hts _ mw_43) rfl (by rw [hml]; exact hl.1) rfl dX6_init_1 (Nat.le_of_ble_eq_true rfl) (Nat.le_of_ble_eq_true rfl) ?_
  refine W.eq (g2 := F0 m 4 ls []) rfl ?_
  refine lv_aload_n hx hb dX6_init_4 rfl (lv_at hl 0 rfl) ?_
  refine lv_bipush (v := 12) hx hb dX6_init_5 (by decide) ?_
  refine va_newa (atype := .boolean) (ty := .boolean) (a0 := (12, .inl (fun _ => 0))) hx hb (hts _ mw_80) rfl hK hP hD hS hA (fun _ => rfl) (by decide) (by decide) (Nat.le_of_ble_eq_true rfl) (Nat.le_of_ble_eq_true rfl) (Nat.le_of_ble_eq_true rfl) dX6_init_7 (fun q7 cA H hK9 hP hD hS => ?_)
  obtain rfl : cZ = cA := cls_bool hK9 1 2 rfl rfl
  clear hK9
  refine W.widen (k := 1) (n := 12) (Nat.le_of_ble_eq_true rfl) (Nat.le_of_ble_eq_true rfl) ?_
  replace hP : va_P D vwCl [(h0, .inr (6, [.null, .null])), (q7, .inl (cZ, 12, .inl (fun _ => 0)))] H := hP
  replace hD : va_D A [(h0, .inr (6, [.null, .null])), (q7, .inl (cZ, 12, .inl (fun _ => 0)))] := hD
  refine va_putF (D := D) (ci := 6) (v := .ref q7) (ty := (.array .boolean)) (C := RX6) (T := TX6) (N := 2) hx hb hts iX6 tyX6 tyX6_ok nmX6 hown hK hP hD hS 0 rfl rfl 0 (by decide) hf9 (fun _ h9 => h9) rfl hin rfl (by decide +kernel) rfl rfl (Nat.le_of_ble_eq_true rfl) dX6_init_9 (fun H locs hP hD hS => ?_)
  replace hP : va_P D vwCl [(h0, .inr (6, [.ref q7, .null])), (q7, .inl (cZ, 12, .inl (fun _ => 0)))] H := hP
  replace hD : va_D A [(h0, .inr (6, [.ref q7, .null])), (q7, .inl (cZ, 12, .inl (fun _ => 0)))] := hD
  refine lv_aload_n hx hb dX6_init_12 rfl (lv_at hl 0 rfl) ?_
  refine lv_bipush (v := 12) hx hb dX6_init_13 (by decide) ?_
  refine va_newa (atype := .int) (ty := .int) (a0 := (12, .inl (fun _ => 0))) hx hb (hts _ mw_79) rfl hK hP hD hS hA (fun _ => rfl) (by decide) (by decide) (Nat.le_of_ble_eq_true rfl) (Nat.le_of_ble_eq_true rfl) (Nat.le_of_ble_eq_true rfl) dX6_init_15 (fun q15 cA H hK9 hP hD hS => ?_)
  obtain rfl : cI = cA := cls_int hK9 0 2 rfl rfl
  clear hK9
  refine W.widen (k := 2) (n := 24) (Nat.le_of_ble_eq_true rfl) (Nat.le_of_ble_eq_true rfl) ?_
  replace hP : va_P D vwCl [(h0, .inr (6, [.ref q7, .null])), (q7, .inl (cZ, 12, .inl (fun _ => 0))), (q15, .inl (cI, 12, .inl (fun _ => 0)))] H := hP
  replace hD : va_D A [(h0, .inr (6, [.ref q7, .null])), (q7, .inl (cZ, 12, .inl (fun _ => 0))), (q15, .inl (cI, 12, .inl (fun _ => 0)))] := hD
  refine va_putF (D := D) (ci := 6) (v := .ref q15) (ty := (.array .int)) (C := RX6) (T := TX6) (N := 2) hx hb hts iX6 tyX6 tyX6_ok nmX6 hown hK hP hD hS 0 rfl rfl 1 (by decide) hf15 (fun _ h9 => h9) rfl hin rfl (by decide +kernel) rfl rfl (Nat.le_of_ble_eq_true rfl) dX6_init_17 (fun H locs hP hD hS => ?_)
  replace hP : va_P D vwCl [(h0, .inr (6, [.ref q7, .ref q15])), (q7, .inl (cZ, 12, .inl (fun _ => 0))), (q15, .inl (cI, 12, .inl (fun _ => 0)))] H := hP
  replace hD : va_D A [(h0, .inr (6, [.ref q7, .ref q15])), (q7, .inl (cZ, 12, .inl (fun _ => 0))), (q15, .inl (cI, 12, .inl (fun _ => 0)))] := hD
  obtain ⟨ad, ead⟩ : ∃ z : Nat → Nat, z = (fun k => ([h0, q7, q15] : List Nat).getD k 0) := ⟨_, rfl⟩
  have had0 : ad 0 = h0 := by rw [ead]; rfl
  replace hP : va_P D vwCl (w_X6 cI cZ ad (u0_X6)) H := by rw [ead]; exact hP.sub [0, 1, 2] rfl
  replace hD : va_D A (w_X6 cI cZ ad (u0_X6)) := by rw [ead]; exact hD.sub [0, 1, 2] (by decide) rfl
  replace hl : lv_has ls 2 [(0, .ref (ad 0))] := by rw [had0]; exact hl
  generalize u0_X6 = u at h hP hD
  refine lv_iconst (v := 0) hx hb dX6_init_20 (by decide) ?_
  refine lv_istore_n (lv' := [(1, .int (0 : Int32)), (0, .ref (ad 0))]) hx hb dX6_init_21 rfl hl (by decide) rfl (fun ls hl => ?_)
  have hL22 : ∀ (k : I6 → Option I6) (hk : ∀ (w22 : I6) (H : Heap) (locs : List Loc) (ls : Array Slot), k w22 = some w' → va_P D vwCl (w_X6 cI cZ ad w22) H → va_D A (w_X6 cI cZ ad w22) → va_S A s.heap H locs → lv_has ls 2 [] → W p l e rc_X6 s m ([.ref h0] : List Value).toArray below meth c H locs 2 24 Q (F0 m 43 ls [])) (n : Nat) (x1_22 : Int32) (w22 : I6) (H : Heap) (locs : List Loc) (ls : Array Slot), lp_X6_init2_22 k n x1_22 w22 = some w' → va_P D vwCl (w_X6 cI cZ ad w22) H → va_D A (w_X6 cI cZ ad w22) → va_S A s.heap H locs → lv_has ls 2 [(0, .ref (ad 0)), (1, .int x1_22)] → W p l e rc_X6 s m ([.ref h0] : List Value).toArray below meth c H locs 2 24 Q (F0 m 22 ls []) := by
    intro k hk n
    induction n with
    | zero =>
      intro x1_22 w22 H locs ls h
      rw [lp_X6_init2_22] at h
      cases h
    | succ n ih =>
      intro x1_22 w22 H locs ls h hP hD hS hl
      rw [lp_X6_init2_22] at h
      refine lv_iload_n hx hb dX6_init_22 rfl (lv_at hl 1 rfl) ?_
      refine lv_bipush (v := 12) hx hb dX6_init_23 (by decide) ?_
      refine lv_icmp_ge (tgt := 43) hx hb dX6_init_25 (by decide) (fun c1 => ?_) (fun c1 => ?_)
      · replace h := gx_t c1 h
        exact hk w22 _ _ _ h hP hD hS (lv_sub hl [] rfl)
      · replace h := gx_f c1 h
        refine lv_aload_n hx hb dX6_init_28 rfl (lv_at hl 0 rfl) ?_
        refine va_get (D := D) (ci := 6) (v := .ref (ad 2)) (C := RX6) (T := TX6) (N := 2) hx hb hts iX6 hown hK hP 0 rfl rfl 1 (by decide) hf15 (fun _ h9 => h9) rfl dX6_init_29 ?_
        refine lv_iload_n hx hb dX6_init_32 rfl (lv_at hl 1 rfl) ?_
        refine lv_sipush (v := (-1000)) hx hb dX6_init_33 (by decide) ?_
        obtain ⟨b2, h⟩ := gx_in h
        refine va_iast (D := D) hx hb hK hP hD hS 2 0 rfl rfl b2 dX6_init_36 (fun H locs hP hD hS => ?_)
        obtain ⟨u3, eu3, h⟩ := gx_let h
        replace hP : va_P D vwCl (w_X6 cI cZ ad u3) H := by rw [← eu3]; exact hP
        replace hD : va_D A (w_X6 cI cZ ad u3) := by rw [← eu3]; exact hD
        obtain ⟨v4, ev4, h⟩ := gx_let h
        refine lv_iinc (v := v4) (lv' := [(1, .int v4), (0, .ref (ad 0))]) hx hb dX6_init_37 hl (k := 1) rfl (by rw [← ev4]; rfl) (by decide) rfl (fun ls hl => ?_)
        refine lv_goto (tgt := 22) hx hb dX6_init_40 (by decide) ?_
        exact ih v4 u3 _ _ _ h hP hD hS (lv_sub hl [1, 0] rfl)
  refine hL22 _ (fun w22 H locs ls h hP hD hS hl => ?_) FU (0 : Int32) u _ _ _ h hP hD hS (lv_sub hl [1, 0] rfl)
  cases h
  exact cc_cret ad hx hb hr hQ hK had0 rfl hP hD hS dX6_init_43 hlocks

def rc_X2 : Room := { frames := 1, cells := 3, slots := 36, locals := 14 }
set_option maxHeartbeats 4000000 in
set_option maxRecDepth 100000 in
theorem kc_X2 (l : Launch) (D : va_G) (cI cZ : ClassId) (h0 : Nat) : MC l yX2_init (wm yX2_init cX2_init 1 none) rc_X2 D [(cI, .int), (cZ, .boolean)] [(h0, .inr (2, [.null, .null, .null, .int 0]))] (fun ad => [(ad 0, .inr (2, [.ref (ad 1), .ref (ad 2), .ref (ad 3), .int 0])), (ad 1, .inl (cI, 12, .inl (fun _ => 0))), (ad 2, .inl (cI, 12, .inl (fun _ => 0))), (ad 3, .inl (cI, 12, .inl (fun _ => 0)))]) h0 3 36 := by
  intro sz
  refine Met.ofW (cc := cX2_init) (maxL := 1) (ret := none) (by decide) rfl ?_
  intro p e s m args below meth c s₁ B hml hv
  obtain ⟨rfl, hsz, hP, hK, hD0, hZ⟩ := hv
  have hx := B.exec
  have hb := B.bytes
  have hr := B.returns
  have hts : ∀ w ∈ Wall, w.before _ s = true := fun w hw => atoms_spec (ws := wm yX2_init cX2_init 1 none) B.pre w (List.mem_cons_of_mem _ hw)
  have hown : s.vm.findClass RX2 = some m.cls := findClass_of_methodNamed B.named
  have hlocks := B.notSynchronized
  have hin : meth.name = "<init>" := (name_of_methodNamed B.named B.method).1
  subst hsz
  have hD := hD0.self (sz := s.heap.size)
  generalize hAe : va_A [(h0, .inr (2, [.null, .null, .null, .int 0]))] s.heap.size = A at hD hZ ⊢
  have hA : ∀ q : Nat, s.heap.size ≤ q → A q := fun q h => by rw [← hAe]; exact Or.inr h
  have hS : va_S A s.heap s.heap [] := va_S.rf
  have hf11 := hts _ mw_156
  have hf15 := hts _ mw_158
  have hf18 := hts _ mw_160
  have hf21 := hts _ mw_162
  have hl := lv_entry ([.ref h0]) (n := 1) (Nat.le_of_ble_eq_true rfl)
  rw [lg_entry_eq]
  generalize (lg_sl ([.ref h0]) ++ List.replicate (1 - (lg_sl ([.ref h0])).length) Slot.unset).toArray = ls at hl ⊢
  replace hl : lv_has ls 1 [(0, .ref h0)] := hl
  refine w_gen (fun Q hQ => ?_)
  refine lv_aload_n hx hb dX2_init_0 rfl (lv_at hl 0 rfl) ?_
  refine W.objInit hx hb hown (hts _ mw_155) (hts _ mw_42) (hts _ mw_43) rfl (by rw [hml]; exact hl.1) rfl dX2_init_1 (Nat.le_of_ble_eq_true rfl) (Nat.le_of_ble_eq_true rfl) ?_
  refine W.eq (g2 := F0 m 4 ls []) rfl ?_
  refine lv_aload_n hx hb dX2_init_4 rfl (lv_at hl 0 rfl) ?_
  refine lv_bipush (v := 12) hx hb dX2_init_5 (by decide) ?_
  refine va_newa (atype := .int) (ty := .int) (a0 := (12, .inl (fun _ => 0))) hx hb (hts _ mw_79) rfl hK hP hD hS hA (fun _ => rfl) (by decide) (by decide) (Nat.le_of_ble_eq_true rfl) (Nat.le_of_ble_eq_true rfl) (Nat.le_of_ble_eq_true rfl) dX2_init_7 (fun q7 cA H hK9 hP hD hS => ?_)
  obtain rfl : cI = cA := cls_int hK9 0 2 rfl rfl
  clear hK9
  refine W.widen (k := 1) (n := 12) (Nat.le_of_ble_eq_true rfl) (Nat.le_of_ble_eq_true rfl) ?_
  replace hP : va_P D vwCl [(h0, .inr (2, [.null, .null, .null, .int 0])), (q7, .inl (cI, 12, .inl (fun _ => 0)))] H := hP
  replace hD : va_D A [(h0, .inr (2, [.null, .null, .null, .int 0])), (q7, .inl (cI, 12, .inl (fun _ => 0)))] := hD
  refine va_putF (D := D) (ci := 2) (v := .ref q7) (ty := (.array .int)) (C := RX2) (T := TX2) (N := 4) hx hb hts iX2 tyX2 tyX2_ok nmX2 hown hK hP hD hS 0 rfl rfl 0 (by decide) hf11 (fun _ h9 => h9) rfl hin rfl (by decide +kernel) rfl rfl (Nat.le_of_ble_eq_true rfl) dX2_init_9 (fun H locs hP hD hS => ?_)
  replace hP : va_P D vwCl [(h0, .inr (2, [.ref q7, .null, .null, .int 0])), (q7, .inl (cI, 12, .inl (fun _ => 0)))] H := hP
  replace hD : va_D A [(h0, .inr (2, [.ref q7, .null, .null, .int 0])), (q7, .inl (cI, 12, .inl (fun _ => 0)))] := hD
  refine lv_aload_n hx hb dX2_init_12 rfl (lv_at hl 0 rfl) ?_
  refine lv_bipush (v := 12) hx hb dX2_init_13 (by decide) ?_
  refine va_newa (atype := .int) (ty := .int) (a0 := (12, .inl (fun _ => 0))) hx hb (hts _ mw_79) rfl hK hP hD hS hA (fun _ => rfl) (by decide) (by decide) (Nat.le_of_ble_eq_true rfl) (Nat.le_of_ble_eq_true rfl) (Nat.le_of_ble_eq_true rfl) dX2_init_15 (fun q15 cA H hK9 hP hD hS => ?_)
  obtain rfl : cI = cA := cls_int hK9 0 2 rfl rfl
  clear hK9
  refine W.widen (k := 2) (n := 24) (Nat.le_of_ble_eq_true rfl) (Nat.le_of_ble_eq_true rfl) ?_
  replace hP : va_P D vwCl [(h0, .inr (2, [.ref q7, .null, .null, .int 0])), (q7, .inl (cI, 12, .inl (fun _ => 0))), (q15, .inl (cI, 12, .inl (fun _ => 0)))] H := hP
  replace hD : va_D A [(h0, .inr (2, [.ref q7, .null, .null, .int 0])), (q7, .inl (cI, 12, .inl (fun _ => 0))), (q15, .inl (cI, 12, .inl (fun _ => 0)))] := hD
  refine va_putF (D := D) (ci := 2) (v := .ref q15) (ty := (.array .int)) (C := RX2) (T := TX2) (N := 4) hx hb hts iX2 tyX2 tyX2_ok nmX2 hown hK hP hD hS 0 rfl rfl 1 (by decide) hf15 (fun _ h9 => h9) rfl hin rfl (by decide +kernel) rfl rfl (Nat.le_of_ble_eq_true rfl) dX2_init_17 (fun H locs hP hD hS => ?_)
  replace hP : va_P D vwCl [(h0, .inr (2, [.ref q7, .ref q15, .null, .int 0])), (q7, .inl (cI, 12, .inl (fun _ => 0))), (q15, .inl (cI, 12, .inl (fun _ => 0)))] H := hP
  replace hD : va_D A [(h0, .inr (2, [.ref q7, .ref q15, .null, .int 0])), (q7, .inl (cI, 12, .inl (fun _ => 0))), (q15, .inl (cI, 12, .inl (fun _ => 0)))] := hD
  refine lv_aload_n hx hb dX2_init_20 rfl (lv_at hl 0 rfl) ?_
  refine lv_bipush (v := 12) hx hb dX2_init_21 (by decide) ?_
  refine va_newa (atype := .int) (ty := .int) (a0 := (12, .inl (fun _ => 0))) hx hb (hts _ mw_79) rfl hK hP hD hS hA (fun _ => rfl) (by decide) (by decide) (Nat.le_of_ble_eq_true rfl) (Nat.le_of_ble_eq_true rfl) (Nat.le_of_ble_eq_true rfl) dX2_init_23 (fun q23 cA H hK9 hP hD hS => ?_)
  obtain rfl : cI = cA := cls_int hK9 0 2 rfl rfl
  clear hK9
  refine W.widen (k := 3) (n := 36) (Nat.le_of_ble_eq_true rfl) (Nat.le_of_ble_eq_true rfl) ?_
  replace hP : va_P D vwCl [(h0, .inr (2, [.ref q7, .ref q15, .null, .int 0])), (q7, .inl (cI, 12, .inl (fun _ => 0))), (q15, .inl (cI, 12, .inl (fun _ => 0))), (q23, .inl (cI, 12, .inl (fun _ => 0)))] H := hP
  replace hD : va_D A [(h0, .inr (2, [.ref q7, .ref q15, .null, .int 0])), (q7, .inl (cI, 12, .inl (fun _ => 0))), (q15, .inl (cI, 12, .inl (fun _ => 0))), (q23, .inl (cI, 12, .inl (fun _ => 0)))] := hD
  refine va_putF (D := D) (ci := 2) (v := .ref q23) (ty := (.array .int)) (C := RX2) (T := TX2) (N := 4) hx hb hts iX2 tyX2 tyX2_ok nmX2 hown hK hP hD hS 0 rfl rfl 2 (by decide) hf18 (fun _ h9 => h9) rfl hin rfl (by decide +kernel) rfl rfl (Nat.le_of_ble_eq_true rfl) dX2_init_25 (fun H locs hP hD hS => ?_)
  replace hP : va_P D vwCl [(h0, .inr (2, [.ref q7, .ref q15, .ref q23, .int 0])), (q7, .inl (cI, 12, .inl (fun _ => 0))), (q15, .inl (cI, 12, .inl (fun _ => 0))), (q23, .inl (cI, 12, .inl (fun _ => 0)))] H := hP
  replace hD : va_D A [(h0, .inr (2, [.ref q7, .ref q15, .ref q23, .int 0])), (q7, .inl (cI, 12, .inl (fun _ => 0))), (q15, .inl (cI, 12, .inl (fun _ => 0))), (q23, .inl (cI, 12, .inl (fun _ => 0)))] := hD
  refine lv_aload_n hx hb dX2_init_28 rfl (lv_at hl 0 rfl) ?_
  refine lv_iconst (v := 0) hx hb dX2_init_29 (by decide) ?_
  refine va_put (D := D) (ci := 2) (v := .int 0) (ty := .int) (C := RX2) (T := TX2) (N := 4) hx hb hts iX2 tyX2 tyX2_ok nmX2 hown hK hP hD hS 0 rfl rfl 3 (by decide) hf21 (fun _ h9 => h9) rfl (by decide +kernel) rfl rfl (Nat.le_of_ble_eq_true rfl) dX2_init_30 (fun H locs hP hD hS => ?_)
  replace hP : va_P D vwCl [(h0, .inr (2, [.ref q7, .ref q15, .ref q23, .int 0])), (q7, .inl (cI, 12, .inl (fun _ => 0))), (q15, .inl (cI, 12, .inl (fun _ => 0))), (q23, .inl (cI, 12, .inl (fun _ => 0)))] H := hP
  replace hD : va_D A [(h0, .inr (2, [.ref q7, .ref q15, .ref q23, .int 0])), (q7, .inl (cI, 12, .inl (fun _ => 0))), (q15, .inl (cI, 12, .inl (fun _ => 0))), (q23, .inl (cI, 12, .inl (fun _ => 0)))] := hD
  exact cc_cret (fun k => ([h0, q7, q15, q23] : List Nat).getD k 0) hx hb hr hQ hK rfl rfl (hP.sub [0, 1, 2, 3] rfl) (hD.sub [0, 1, 2, 3] (by decide) rfl) hS dX2_init_33 hlocks

def rc_X4 : Room := { frames := 1, cells := 3, slots := 9, locals := 14 }
set_option maxHeartbeats 4000000 in
set_option maxRecDepth 100000 in
theorem kc_X4 (l : Launch) (D : va_G) (cI cZ : ClassId) (h0 : Nat) : MC l yX4_init (wm yX4_init cX4_init 1 none) rc_X4 D [(cI, .int), (cZ, .boolean)] [(h0, .inr (4, [.null, .null, .null]))] (fun ad => [(ad 0, .inr (4, [.ref (ad 1), .ref (ad 2), .ref (ad 3)])), (ad 1, .inl (cI, 3, .inl (fun _ => 0))), (ad 2, .inl (cI, 3, .inl (upd (upd (upd (fun _ => 0) (0 : Int32).toNatClampNeg (-1)) (1 : Int32).toNatClampNeg (-1)) (2 : Int32).toNatClampNeg (-1)))), (ad 3, .inl (cI, 3, .inl (fun _ => 0)))]) h0 3 9 := by
  intro sz
  refine Met.ofW (cc := cX4_init) (maxL := 1) (ret := none) (by decide) rfl ?_
  intro p e s m args below meth c s₁ B hml hv
  obtain ⟨rfl, hsz, hP, hK, hD0, hZ⟩ := hv
  have hx := B.exec
  have hb := B.bytes
  have hr := B.returns
  have hts : ∀ w ∈ Wall, w.before _ s = true := fun w hw => atoms_spec (ws := wm yX4_init cX4_init 1 none) B.pre w (List.mem_cons_of_mem _ hw)
  have hown : s.vm.findClass RX4 = some m.cls := findClass_of_methodNamed B.named
  have hlocks := B.notSynchronized
  have hin : meth.name = "<init>" := (name_of_methodNamed B.named B.method).1
  subst hsz
  have hD := hD0.self (sz := s.heap.size)
  generalize hAe : va_A [(h0, .inr (4, [.null, .null, .null]))] s.heap.size = A at hD hZ ⊢
  have hA : ∀ q : Nat, s.heap.size ≤ q → A q := fun q h => by rw [← hAe]; exact Or.inr h
  have hS : va_S A s.heap s.heap [] := va_S.rf
  have hf11 := hts _ mw_178
  have hf15 := hts _ mw_180
  have hf18 := hts _ mw_182
  have hl := lv_entry ([.ref h0]) (n := 1) (Nat.le_of_ble_eq_true rfl)
  rw [lg_entry_eq]
  generalize (lg_sl ([.ref h0]) ++ List.replicate (1 - (lg_sl ([.ref h0])).length) Slot.unset).toArray = ls at hl ⊢
  replace hl : lv_has ls 1 [(0, .ref h0)] := hl
  refine w_gen (fun Q hQ => ?_)
  refine lv_aload_n hx hb dX4_init_0 rfl (lv_at hl 0 rfl) ?_
  refine W.objInit hx hb hown (hts _ mw_177) (hts _ mw_42) (hts _ mw_43) rfl (by rw [hml]; exact hl.1) rfl dX4_init_1 (Nat.le_of_ble_eq_true rfl) (Nat.le_of_ble_eq_true rfl) ?_
  refine W.eq (g2 := F0 m 4 ls []) rfl ?_
  refine lv_aload_n hx hb dX4_init_4 rfl (lv_at hl 0 rfl) ?_
  refine lv_iconst (v := 3) hx hb dX4_init_5 (by decide) ?_
  refine va_newa (atype := .int) (ty := .int) (a0 := (3, .inl (fun _ => 0))) hx hb (hts _ mw_79) rfl hK hP hD hS hA (fun _ => rfl) (by decide) (by decide) (Nat.le_of_ble_eq_true rfl) (Nat.le_of_ble_eq_true rfl) (Nat.le_of_ble_eq_true rfl) dX4_init_6 (fun q6 cA H hK9 hP hD hS => ?_)
  obtain rfl : cI = cA := cls_int hK9 0 2 rfl rfl
  clear hK9
  refine W.widen (k := 1) (n := 3) (Nat.le_of_ble_eq_true rfl) (Nat.le_of_ble_eq_true rfl) ?_
  replace hP : va_P D vwCl [(h0, .inr (4, [.null, .null, .null])), (q6, .inl (cI, 3, .inl (fun _ => 0)))] H := hP
  replace hD : va_D A [(h0, .inr (4, [.null, .null, .null])), (q6, .inl (cI, 3, .inl (fun _ => 0)))] := hD
  refine va_putF (D := D) (ci := 4) (v := .ref q6) (ty := (.array .int)) (C := RX4) (T := TX4) (N := 3) hx hb hts iX4 tyX4 tyX4_ok nmX4 hown hK hP hD hS 0 rfl rfl 0 (by decide) hf11 (fun _ h9 => h9) rfl hin rfl (by decide +kernel) rfl rfl (Nat.le_of_ble_eq_true rfl) dX4_init_8 (fun H locs hP hD hS => ?_)
  replace hP : va_P D vwCl [(h0, .inr (4, [.ref q6, .null, .null])), (q6, .inl (cI, 3, .inl (fun _ => 0)))] H := hP
  replace hD : va_D A [(h0, .inr (4, [.ref q6, .null, .null])), (q6, .inl (cI, 3, .inl (fun _ => 0)))] := hD
  refine lv_aload_n hx hb dX4_init_11 rfl (lv_at hl 0 rfl) ?_
  refine lv_iconst (v := 3) hx hb dX4_init_12 (by decide) ?_
  refine va_newa (atype := .int) (ty := .int) (a0 := (3, .inl (fun _ => 0))) hx hb (hts _ mw_79) rfl hK hP hD hS hA (fun _ => rfl) (by decide) (by decide) (Nat.le_of_ble_eq_true rfl) (Nat.le_of_ble_eq_true rfl) (Nat.le_of_ble_eq_true rfl) dX4_init_13 (fun q13 cA H hK9 hP hD hS => ?_)
  obtain rfl : cI = cA := cls_int hK9 0 2 rfl rfl
  clear hK9
  refine W.widen (k := 2) (n := 6) (Nat.le_of_ble_eq_true rfl) (Nat.le_of_ble_eq_true rfl) ?_
  replace hP : va_P D vwCl [(h0, .inr (4, [.ref q6, .null, .null])), (q6, .inl (cI, 3, .inl (fun _ => 0))), (q13, .inl (cI, 3, .inl (fun _ => 0)))] H := hP
  replace hD : va_D A [(h0, .inr (4, [.ref q6, .null, .null])), (q6, .inl (cI, 3, .inl (fun _ => 0))), (q13, .inl (cI, 3, .inl (fun _ => 0)))] := hD
  refine lv_dup hx hb dX4_init_15 rfl ?_
  refine lv_iconst (v := 0) hx hb dX4_init_16 (by decide) ?_
  refine lv_iconst (v := (-1)) hx hb dX4_init_17 (by decide) ?_
  refine va_iast (D := D) hx hb hK hP hD hS 2 0 rfl rfl (by unfold vp_in; decide) dX4_init_18 (fun H locs hP hD hS => ?_)
  replace hP : va_P D vwCl [(h0, .inr (4, [.ref q6, .null, .null])), (q6, .inl (cI, 3, .inl (fun _ => 0))), (q13, .inl (cI, 3, .inl (upd (fun _ => 0) (0 : Int32).toNatClampNeg (-1))))] H := hP
  replace hD : va_D A [(h0, .inr (4, [.ref q6, .null, .null])), (q6, .inl (cI, 3, .inl (fun _ => 0))), (q13, .inl (cI, 3, .inl (upd (fun _ => 0) (0 : Int32).toNatClampNeg (-1))))] := hD
  refine lv_dup hx hb dX4_init_19 rfl ?_
  refine lv_iconst (v := 1) hx hb dX4_init_20 (by decide) ?_
  refine lv_iconst (v := (-1)) hx hb dX4_init_21 (by decide) ?_
  refine va_iast (D := D) hx hb hK hP hD hS 2 0 rfl rfl (by unfold vp_in; decide) dX4_init_22 (fun H locs hP hD hS => ?_)
  replace hP : va_P D vwCl [(h0, .inr (4, [.ref q6, .null, .null])), (q6, .inl (cI, 3, .inl (fun _ => 0))), (q13, .inl (cI, 3, .inl (upd (upd (fun _ => 0) (0 : Int32).toNatClampNeg (-1)) (1 : Int32).toNatClampNeg (-1))))] H := hP
  replace hD : va_D A [(h0, .inr (4, [.ref q6, .null, .null])), (q6, .inl (cI, 3, .inl (fun _ => 0))), (q13, .inl (cI, 3, .inl (upd (upd (fun _ => 0) (0 : Int32).toNatClampNeg (-1)) (1 : Int32).toNatClampNeg (-1))))] := hD
  refine lv_dup hx hb dX4_init_23 rfl ?_
  refine lv_iconst (v := 2) hx hb dX4_init_24 (by decide) ?_
  refine lv_iconst (v := (-1)) hx hb dX4_init_25 (by decide) ?_
  refine va_iast (D := D) hx hb hK hP hD hS 2 0 rfl rfl (by unfold vp_in; decide) dX4_init_26 (fun H locs hP hD hS => ?_)
  replace hP : va_P D vwCl [(h0, .inr (4, [.ref q6, .null, .null])), (q6, .inl (cI, 3, .inl (fun _ => 0))), (q13, .inl (cI, 3, .inl (upd (upd (upd (fun _ => 0) (0 : Int32).toNatClampNeg (-1)) (1 : Int32).toNatClampNeg (-1)) (2 : Int32).toNatClampNeg (-1))))] H := hP
  replace hD : va_D A [(h0, .inr (4, [.ref q6, .null, .null])), (q6, .inl (cI, 3, .inl (fun _ => 0))), (q13, .inl (cI, 3, .inl (upd (upd (upd (fun _ => 0) (0 : Int32).toNatClampNeg (-1)) (1 : Int32).toNatClampNeg (-1)) (2 : Int32).toNatClampNeg (-1))))] := hD
  refine va_putF (D := D) (ci := 4) (v := .ref q13) (ty := (.array .int)) (C := RX4) (T := TX4) (N := 3) hx hb hts iX4 tyX4 tyX4_ok nmX4 hown hK hP hD hS 0 rfl rfl 1 (by decide) hf15 (fun _ h9 => h9) rfl hin rfl (by decide +kernel) rfl rfl (Nat.le_of_ble_eq_true rfl) dX4_init_27 (fun H locs hP hD hS => ?_)
  replace hP : va_P D vwCl [(h0, .inr (4, [.ref q6, .ref q13, .null])), (q6, .inl (cI, 3, .inl (fun _ => 0))), (q13, .inl (cI, 3, .inl (upd (upd (upd (fun _ => 0) (0 : Int32).toNatClampNeg (-1)) (1 : Int32).toNatClampNeg (-1)) (2 : Int32).toNatClampNeg (-1))))] H := hP
  replace hD : va_D A [(h0, .inr (4, [.ref q6, .ref q13, .null])), (q6, .inl (cI, 3, .inl (fun _ => 0))), (q13, .inl (cI, 3, .inl (upd (upd (upd (fun _ => 0) (0 : Int32).toNatClampNeg (-1)) (1 : Int32).toNatClampNeg (-1)) (2 : Int32).toNatClampNeg (-1))))] := hD
  refine lv_aload_n hx hb dX4_init_30 rfl (lv_at hl 0 rfl) ?_
  refine lv_iconst (v := 3) hx hb dX4_init_31 (by decide) ?_
  refine va_newa (atype := .int) (ty := .int) (a0 := (3, .inl (fun _ => 0))) hx hb (hts _ mw_79) rfl hK hP hD hS hA (fun _ => rfl) (by decide) (by decide) (Nat.le_of_ble_eq_true rfl) (Nat.le_of_ble_eq_true rfl) (Nat.le_of_ble_eq_true rfl) dX4_init_32 (fun q32 cA H hK9 hP hD hS => ?_)
  obtain rfl : cI = cA := cls_int hK9 0 2 rfl rfl
  clear hK9
  refine W.widen (k := 3) (n := 9) (Nat.le_of_ble_eq_true rfl) (Nat.le_of_ble_eq_true rfl) ?_
  replace hP : va_P D vwCl [(h0, .inr (4, [.ref q6, .ref q13, .null])), (q6, .inl (cI, 3, .inl (fun _ => 0))), (q13, .inl (cI, 3, .inl (upd (upd (upd (fun _ => 0) (0 : Int32).toNatClampNeg (-1)) (1 : Int32).toNatClampNeg (-1)) (2 : Int32).toNatClampNeg (-1)))), (q32, .inl (cI, 3, .inl (fun _ => 0)))] H := hP
  replace hD : va_D A [(h0, .inr (4, [.ref q6, .ref q13, .null])), (q6, .inl (cI, 3, .inl (fun _ => 0))), (q13, .inl (cI, 3, .inl (upd (upd (upd (fun _ => 0) (0 : Int32).toNatClampNeg (-1)) (1 : Int32).toNatClampNeg (-1)) (2 : Int32).toNatClampNeg (-1)))), (q32, .inl (cI, 3, .inl (fun _ => 0)))] := hD
  refine va_putF (D := D) (ci := 4) (v := .ref q32) (ty := (.array .int)) (C := RX4) (T := TX4) (N := 3) hx hb hts iX4 tyX4 tyX4_ok nmX4 hown hK hP hD hS 0 rfl rfl 2 (by decide) hf18 (fun _ h9 => h9) rfl hin rfl (by decide +kernel) rfl rfl (Nat.le_of_ble_eq_true rfl) dX4_init_34 (fun H locs hP hD hS => ?_)
  replace hP : va_P D vwCl [(h0, .inr (4, [.ref q6, .ref q13, .ref q32])), (q6, .inl (cI, 3, .inl (fun _ => 0))), (q13, .inl (cI, 3, .inl (upd (upd (upd (fun _ => 0) (0 : Int32).toNatClampNeg (-1)) (1 : Int32).toNatClampNeg (-1)) (2 : Int32).toNatClampNeg (-1)))), (q32, .inl (cI, 3, .inl (fun _ => 0)))] H := hP
  replace hD : va_D A [(h0, .inr (4, [.ref q6, .ref q13, .ref q32])), (q6, .inl (cI, 3, .inl (fun _ => 0))), (q13, .inl (cI, 3, .inl (upd (upd (upd (fun _ => 0) (0 : Int32).toNatClampNeg (-1)) (1 : Int32).toNatClampNeg (-1)) (2 : Int32).toNatClampNeg (-1)))), (q32, .inl (cI, 3, .inl (fun _ => 0)))] := hD
  exact cc_cret (fun k => ([h0, q6, q13, q32] : List Nat).getD k 0) hx hb hr hQ hK rfl rfl (hP.sub [0, 1, 2, 3] rfl) (hD.sub [0, 1, 2, 3] (by decide) rfl) hS dX4_init_37 hlocks

def rc_X0 : Room := { frames := 1, cells := 5, slots := 40, locals := 14 }
set_option maxHeartbeats 4000000 in
set_option maxRecDepth 100000 in
theorem kc_X0 (l : Launch) (D : va_G) (cI cZ : ClassId) (h0 : Nat) : MC l yX0_init (wm yX0_init cX0_init 1 none) rc_X0 D [(cI, .int), (cZ, .boolean)] [(h0, .inr (0, [.null, .null, .null, .null, .null, .int 0]))] (fun ad => [(ad 0, .inr (0, [.ref (ad 1), .ref (ad 2), .ref (ad 3), .ref (ad 4), .ref (ad 5), .int 0])), (ad 1, .inl (cI, 8, .inl (fun _ => 0))), (ad 2, .inl (cI, 8, .inl (fun _ => 0))), (ad 3, .inl (cI, 8, .inl (fun _ => 0))), (ad 4, .inl (cI, 8, .inl (fun _ => 0))), (ad 5, .inl (cI, 8, .inl (fun _ => 0)))]) h0 5 40 := by
  intro sz
  refine Met.ofW (cc := cX0_init) (maxL := 1) (ret := none) (by decide) rfl ?_
  intro p e s m args below meth c s₁ B hml hv
  obtain ⟨rfl, hsz, hP, hK, hD0, hZ⟩ := hv
  have hx := B.exec
  have hb := B.bytes
  have hr := B.returns
  have hts : ∀ w ∈ Wall, w.before _ s = true := fun w hw => atoms_spec (ws := wm yX0_init cX0_init 1 none) B.pre w (List.mem_cons_of_mem _ hw)
  have hown : s.vm.findClass RX0 = some m.cls := findClass_of_methodNamed B.named
  have hlocks := B.notSynchronized
  have hin : meth.name = "<init>" := (name_of_methodNamed B.named B.method).1
  subst hsz
  have hD := hD0.self (sz := s.heap.size)
  generalize hAe : va_A [(h0, .inr (0, [.null, .null, .null, .null, .null, .int 0]))] s.heap.size = A at hD hZ ⊢
  have hA : ∀ q : Nat, s.heap.size ≤ q → A q := fun q h => by rw [← hAe]; exact Or.inr h
  have hS : va_S A s.heap s.heap [] := va_S.rf
  have hf11 := hts _ mw_197
  have hf15 := hts _ mw_198
  have hf18 := hts _ mw_199
  have hf21 := hts _ mw_200
  have hf24 := hts _ mw_201
  have hf27 := hts _ mw_202
  have hl := lv_entry ([.ref h0]) (n := 1) (Nat.le_of_ble_eq_true rfl)
  rw [lg_entry_eq]
  generalize (lg_sl ([.ref h0]) ++ List.replicate (1 - (lg_sl ([.ref h0])).length) Slot.unset).toArray = ls at hl ⊢
  replace hl : lv_has ls 1 [(0, .ref h0)] := hl
  refine w_gen (fun Q hQ => ?_)
  refine lv_aload_n hx hb dX0_init_0 rfl (lv_at hl 0 rfl) ?_
  refine W.objInit hx hb hown (hts _ mw_196) (hts _ mw_42) (hts _ mw_43) rfl (by rw [hml]; exact hl.1) rfl dX0_init_1 (Nat.le_of_ble_eq_true rfl) (Nat.le_of_ble_eq_true rfl) ?_
  refine W.eq (g2 := F0 m 4 ls []) rfl ?_
  refine lv_aload_n hx hb dX0_init_4 rfl (lv_at hl 0 rfl) ?_
  refine lv_bipush (v := 8) hx hb dX0_init_5 (by decide) ?_
  refine va_newa (atype := .int) (ty := .int) (a0 := (8, .inl (fun _ => 0))) hx hb (hts _ mw_79) rfl hK hP hD hS hA (fun _ => rfl) (by decide) (by decide) (Nat.le_of_ble_eq_true rfl) (Nat.le_of_ble_eq_true rfl) (Nat.le_of_ble_eq_true rfl) dX0_init_7 (fun q7 cA H hK9 hP hD hS => ?_)
  obtain rfl : cI = cA := cls_int hK9 0 2 rfl rfl
  clear hK9
  refine W.widen (k := 1) (n := 8) (Nat.le_of_ble_eq_true rfl) (Nat.le_of_ble_eq_true rfl) ?_
  replace hP : va_P D vwCl [(h0, .inr (0, [.null, .null, .null, .null, .null, .int 0])), (q7, .inl (cI, 8, .inl (fun _ => 0)))] H := hP
  replace hD : va_D A [(h0, .inr (0, [.null, .null, .null, .null, .null, .int 0])), (q7, .inl (cI, 8, .inl (fun _ => 0)))] := hD
  refine va_putF (D := D) (ci := 0) (v := .ref q7) (ty := (.array .int)) (C := RX0) (T := TX0) (N := 6) hx hb hts iX0 tyX0 tyX0_ok nmX0 hown hK hP hD hS 0 rfl rfl 0 (by decide) hf11 (fun _ h9 => h9) rfl hin rfl (by decide +kernel) rfl rfl (Nat.le_of_ble_eq_true rfl) dX0_init_9 (fun H locs hP hD hS => ?_)
  replace hP : va_P D vwCl [(h0, .inr (0, [.ref q7, .null, .null, .null, .null, .int 0])), (q7, .inl (cI, 8, .inl (fun _ => 0)))] H := hP
  replace hD : va_D A [(h0, .inr (0, [.ref q7, .null, .null, .null, .null, .int 0])), (q7, .inl (cI, 8, .inl (fun _ => 0)))] := hD
  refine lv_aload_n hx hb dX0_init_12 rfl (lv_at hl 0 rfl) ?_
  refine lv_bipush (v := 8) hx hb dX0_init_13 (by decide) ?_
  refine va_newa (atype := .int) (ty := .int) (a0 := (8, .inl (fun _ => 0))) hx hb (hts _ mw_79) rfl hK hP hD hS hA (fun _ => rfl) (by decide) (by decide) (Nat.le_of_ble_eq_true rfl) (Nat.le_of_ble_eq_true rfl) (Nat.le_of_ble_eq_true rfl) dX0_init_15 (fun q15 cA H hK9 hP hD hS => ?_)
  obtain rfl : cI = cA := cls_int hK9 0 2 rfl rfl
  clear hK9
  refine W.widen (k := 2) (n := 16) (Nat.le_of_ble_eq_true rfl) (Nat.le_of_ble_eq_true rfl) ?_
  replace hP : va_P D vwCl [(h0, .inr (0, [.ref q7, .null, .null, .null, .null, .int 0])), (q7, .inl (cI, 8, .inl (fun _ => 0))), (q15, .inl (cI, 8, .inl (fun _ => 0)))] H := hP
  replace hD : va_D A [(h0, .inr (0, [.ref q7, .null, .null, .null, .null, .int 0])), (q7, .inl (cI, 8, .inl (fun _ => 0))), (q15, .inl (cI, 8, .inl (fun _ => 0)))] := hD
  refine va_putF (D := D) (ci := 0) (v := .ref q15) (ty := (.array .int)) (C := RX0) (T := TX0) (N := 6) hx hb hts iX0 tyX0 tyX0_ok nmX0 hown hK hP hD hS 0 rfl rfl 1 (by decide) hf15 (fun _ h9 => h9) rfl hin rfl (by decide +kernel) rfl rfl (Nat.le_of_ble_eq_true rfl) dX0_init_17 (fun H locs hP hD hS => ?_)
  replace hP : va_P D vwCl [(h0, .inr (0, [.ref q7, .ref q15, .null, .null, .null, .int 0])), (q7, .inl (cI, 8, .inl (fun _ => 0))), (q15, .inl (cI, 8, .inl (fun _ => 0)))] H := hP
  replace hD : va_D A [(h0, .inr (0, [.ref q7, .ref q15, .null, .null, .null, .int 0])), (q7, .inl (cI, 8, .inl (fun _ => 0))), (q15, .inl (cI, 8, .inl (fun _ => 0)))] := hD
  refine lv_aload_n hx hb dX0_init_20 rfl (lv_at hl 0 rfl) ?_
  refine lv_bipush (v := 8) hx hb dX0_init_21 (by decide) ?_
  refine va_newa (atype := .int) (ty := .int) (a0 := (8, .inl (fun _ => 0))) hx hb (hts _ mw_79) rfl hK hP hD hS hA (fun _ => rfl) (by decide) (by decide) (Nat.le_of_ble_eq_true rfl) (Nat.le_of_ble_eq_true rfl) (Nat.le_of_ble_eq_true rfl) dX0_init_23 (fun q23 cA H hK9 hP hD hS => ?_)
  obtain rfl : cI = cA := cls_int hK9 0 2 rfl rfl
  clear hK9
  refine W.widen (k := 3) (n := 24) (Nat.le_of_ble_eq_true rfl) (Nat.le_of_ble_eq_true rfl) ?_
  replace hP : va_P D vwCl [(h0, .inr (0, [.ref q7, .ref q15, .null, .null, .null, .int 0])), (q7, .inl (cI, 8, .inl (fun _ => 0))), (q15, .inl (cI, 8, .inl (fun _ => 0))), (q23, .inl (cI, 8, .inl (fun _ => 0)))] H := hP
  replace hD : va_D A [(h0, .inr (0, [.ref q7, .ref q15, .null, .null, .null, .int 0])), (q7, .inl (cI, 8, .inl (fun _ => 0))), (q15, .inl (cI, 8, .inl (fun _ => 0))), (q23, .inl (cI, 8, .inl (fun _ => 0)))] := hD
  refine va_putF (D := D) (ci := 0) (v := .ref q23) (ty := (.array .int)) (C := RX0) (T := TX0) (N := 6) hx hb hts iX0 tyX0 tyX0_ok nmX0 hown hK hP hD hS 0 rfl rfl 2 (by decide) hf18 (fun _ h9 => h9) rfl hin rfl (by decide +kernel) rfl rfl (Nat.le_of_ble_eq_true rfl) dX0_init_25 (fun H locs hP hD hS => ?_)
  replace hP : va_P D vwCl [(h0, .inr (0, [.ref q7, .ref q15, .ref q23, .null, .null, .int 0])), (q7, .inl (cI, 8, .inl (fun _ => 0))), (q15, .inl (cI, 8, .inl (fun _ => 0))), (q23, .inl (cI, 8, .inl (fun _ => 0)))] H := hP
  replace hD : va_D A [(h0, .inr (0, [.ref q7, .ref q15, .ref q23, .null, .null, .int 0])), (q7, .inl (cI, 8, .inl (fun _ => 0))), (q15, .inl (cI, 8, .inl (fun _ => 0))), (q23, .inl (cI, 8, .inl (fun _ => 0)))] := hD
  refine lv_aload_n hx hb dX0_init_28 rfl (lv_at hl 0 rfl) ?_
  refine lv_bipush (v := 8) hx hb dX0_init_29 (by decide) ?_
  refine va_newa (atype := .int) (ty := .int) (a0 := (8, .inl (fun _ => 0))) hx hb (hts _ mw_79) rfl hK hP hD hS hA (fun _ => rfl) (by decide) (by decide) (Nat.le_of_ble_eq_true rfl) (Nat.le_of_ble_eq_true rfl) (Nat.le_of_ble_eq_true rfl) dX0_init_31 (fun q31 cA H hK9 hP hD hS => ?_)
  obtain rfl : cI = cA := cls_int hK9 0 2 rfl rfl
  clear hK9
  refine W.widen (k := 4) (n := 32) (Nat.le_of_ble_eq_true rfl) (Nat.le_of_ble_eq_true rfl) ?_
  replace hP : va_P D vwCl [(h0, .inr (0, [.ref q7, .ref q15, .ref q23, .null, .null, .int 0])), (q7, .inl (cI, 8, .inl (fun _ => 0))), (q15, .inl (cI, 8, .inl (fun _ => 0))), (q23, .inl (cI, 8, .inl (fun _ => 0))), (q31, .inl (cI, 8, .inl (fun _ => 0)))] H := hP
  replace hD : va_D A [(h0, .inr (0, [.ref q7, .ref q15, .ref q23, .null, .null, .int 0])), (q7, .inl (cI, 8, .inl (fun _ => 0))), (q15, .inl (cI, 8, .inl (fun _ => 0))), (q23, .inl (cI, 8, .inl (fun _ => 0))), (q31, .inl (cI, 8, .inl (fun _ => 0)))] := hD
  refine va_putF (D := D) (ci := 0) (v := .ref q31) (ty := (.array .int)) (C := RX0) (T := TX0) (N := 6) hx hb hts iX0 tyX0 tyX0_ok nmX0 hown hK hP hD hS 0 rfl rfl 3 (by decide) hf21 (fun _ h9 => h9) rfl hin rfl (by decide +kernel) rfl rfl (Nat.le_of_ble_eq_true rfl) dX0_init_33 (fun H locs hP hD hS => ?_)
  replace hP : va_P D vwCl [(h0, .inr (0, [.ref q7, .ref q15, .ref q23, .ref q31, .null, .int 0])), (q7, .inl (cI, 8, .inl (fun _ => 0))), (q15, .inl (cI, 8, .inl (fun _ => 0))), (q23, .inl (cI, 8, .inl (fun _ => 0))), (q31, .inl (cI, 8, .inl (fun _ => 0)))] H := hP
  replace hD : va_D A [(h0, .inr (0, [.ref q7, .ref q15, .ref q23, .ref q31, .null, .int 0])), (q7, .inl (cI, 8, .inl (fun _ => 0))), (q15, .inl (cI, 8, .inl (fun _ => 0))), (q23, .inl (cI, 8, .inl (fun _ => 0))), (q31, .inl (cI, 8, .inl (fun _ => 0)))] := hD
  refine lv_aload_n hx hb dX0_init_36 rfl (lv_at hl 0 rfl) ?_
  refine lv_bipush (v := 8) hx hb dX0_init_37 (by decide) ?_
  refine va_newa (atype := .int) (ty := .int) (a0 := (8, .inl (fun _ => 0))) hx hb (hts _ mw_79) rfl hK hP hD hS hA (fun _ => rfl) (by decide) (by decide) (Nat.le_of_ble_eq_true rfl) (Nat.le_of_ble_eq_true rfl) (Nat.le_of_ble_eq_true rfl) dX0_init_39 (fun q39 cA H hK9 hP hD hS => ?_)
  obtain rfl : cI = cA := cls_int hK9 0 2 rfl rfl
  clear hK9
  refine W.widen (k := 5) (n := 40) (Nat.le_of_ble_eq_true rfl) (Nat.le_of_ble_eq_true rfl) ?_
  replace hP : va_P D vwCl [(h0, .inr (0, [.ref q7, .ref q15, .ref q23, .ref q31, .null, .int 0])), (q7, .inl (cI, 8, .inl (fun _ => 0))), (q15, .inl (cI, 8, .inl (fun _ => 0))), (q23, .inl (cI, 8, .inl (fun _ => 0))), (q31, .inl (cI, 8, .inl (fun _ => 0))), (q39, .inl (cI, 8, .inl (fun _ => 0)))] H := hP
  replace hD : va_D A [(h0, .inr (0, [.ref q7, .ref q15, .ref q23, .ref q31, .null, .int 0])), (q7, .inl (cI, 8, .inl (fun _ => 0))), (q15, .inl (cI, 8, .inl (fun _ => 0))), (q23, .inl (cI, 8, .inl (fun _ => 0))), (q31, .inl (cI, 8, .inl (fun _ => 0))), (q39, .inl (cI, 8, .inl (fun _ => 0)))] := hD
  refine va_putF (D := D) (ci := 0) (v := .ref q39) (ty := (.array .int)) (C := RX0) (T := TX0) (N := 6) hx hb hts iX0 tyX0 tyX0_ok nmX0 hown hK hP hD hS 0 rfl rfl 4 (by decide) hf24 (fun _ h9 => h9) rfl hin rfl (by decide +kernel) rfl rfl (Nat.le_of_ble_eq_true rfl) dX0_init_41 (fun H locs hP hD hS => ?_)
  replace hP : va_P D vwCl [(h0, .inr (0, [.ref q7, .ref q15, .ref q23, .ref q31, .ref q39, .int 0])), (q7, .inl (cI, 8, .inl (fun _ => 0))), (q15, .inl (cI, 8, .inl (fun _ => 0))), (q23, .inl (cI, 8, .inl (fun _ => 0))), (q31, .inl (cI, 8, .inl (fun _ => 0))), (q39, .inl (cI, 8, .inl (fun _ => 0)))] H := hP
  replace hD : va_D A [(h0, .inr (0, [.ref q7, .ref q15, .ref q23, .ref q31, .ref q39, .int 0])), (q7, .inl (cI, 8, .inl (fun _ => 0))), (q15, .inl (cI, 8, .inl (fun _ => 0))), (q23, .inl (cI, 8, .inl (fun _ => 0))), (q31, .inl (cI, 8, .inl (fun _ => 0))), (q39, .inl (cI, 8, .inl (fun _ => 0)))] := hD
  refine lv_aload_n hx hb dX0_init_44 rfl (lv_at hl 0 rfl) ?_
  refine lv_iconst (v := 0) hx hb dX0_init_45 (by decide) ?_
  refine va_put (D := D) (ci := 0) (v := .int 0) (ty := .int) (C := RX0) (T := TX0) (N := 6) hx hb hts iX0 tyX0 tyX0_ok nmX0 hown hK hP hD hS 0 rfl rfl 5 (by decide) hf27 (fun _ h9 => h9) rfl (by decide +kernel) rfl rfl (Nat.le_of_ble_eq_true rfl) dX0_init_46 (fun H locs hP hD hS => ?_)
  replace hP : va_P D vwCl [(h0, .inr (0, [.ref q7, .ref q15, .ref q23, .ref q31, .ref q39, .int 0])), (q7, .inl (cI, 8, .inl (fun _ => 0))), (q15, .inl (cI, 8, .inl (fun _ => 0))), (q23, .inl (cI, 8, .inl (fun _ => 0))), (q31, .inl (cI, 8, .inl (fun _ => 0))), (q39, .inl (cI, 8, .inl (fun _ => 0)))] H := hP
  replace hD : va_D A [(h0, .inr (0, [.ref q7, .ref q15, .ref q23, .ref q31, .ref q39, .int 0])), (q7, .inl (cI, 8, .inl (fun _ => 0))), (q15, .inl (cI, 8, .inl (fun _ => 0))), (q23, .inl (cI, 8, .inl (fun _ => 0))), (q31, .inl (cI, 8, .inl (fun _ => 0))), (q39, .inl (cI, 8, .inl (fun _ => 0)))] := hD
  exact cc_cret (fun k => ([h0, q7, q15, q23, q31, q39] : List Nat).getD k 0) hx hb hr hQ hK rfl rfl (hP.sub [0, 1, 2, 3, 4, 5] rfl) (hD.sub [0, 1, 2, 3, 4, 5] (by decide) rfl) hS dX0_init_49 hlocks

def rc_X5 : Room := { frames := 1, cells := 1, slots := 720, locals := 14 }
set_option maxHeartbeats 4000000 in
set_option maxRecDepth 100000 in
theorem kc_X5 (l : Launch) (D : va_G) (cI cZ : ClassId) (h0 : Nat) : MC l yX5_init (wm yX5_init cX5_init 1 none) rc_X5 D [(cI, .int), (cZ, .boolean)] [(h0, .inr (5, [.null]))] (fun ad => [(ad 0, .inr (5, [.ref (ad 1)])), (ad 1, .inl (cI, 720, .inl (fun _ => 0)))]) h0 1 720 := by
  intro sz
  refine Met.ofW (cc := cX5_init) (maxL := 1) (ret := none) (by decide) rfl ?_
  intro p e s m args below meth c s₁ B hml hv
  obtain ⟨rfl, hsz, hP, hK, hD0, hZ⟩ := hv
  have hx := B.exec
  have hb := B.bytes
  have hr := B.returns
  have hts : ∀ w ∈ Wall, w.before _ s = true := fun w hw => atoms_spec (ws := wm yX5_init cX5_init 1 none) B.pre w (List.mem_cons_of_mem _ hw)
  have hown : s.vm.findClass RX5 = some m.cls := findClass_of_methodNamed B.named
  have hlocks := B.notSynchronized
  have hin : meth.name = "<init>" := (name_of_methodNamed B.named B.method).1
  subst hsz
  have hD := hD0.self (sz := s.heap.size)
  generalize hAe : va_A [(h0, .inr (5, [.null]))] s.heap.size = A at hD hZ ⊢
  have hA : ∀ q : Nat, s.heap.size ≤ q → A q := fun q h => by rw [← hAe]; exact Or.inr h
  have hS : va_S A s.heap s.heap [] := va_S.rf
  have hf11 := hts _ mw_223
  have hl := lv_entry ([.ref h0]) (n := 1) (Nat.le_of_ble_eq_true rfl)
  rw [lg_entry_eq]
  generalize (lg_sl ([.ref h0]) ++ List.replicate (1 - (lg_sl ([.ref h0])).length) Slot.unset).toArray = ls at hl ⊢
  replace hl : lv_has ls 1 [(0, .ref h0)] := hl
  refine w_gen (fun Q hQ => ?_)
  refine lv_aload_n hx hb dX5_init_0 rfl (lv_at hl 0 rfl) ?_
  refine W.objInit hx hb hown (hts _ mw_222) (hts _ mw_42) (hts _ mw_43) rfl (by rw [hml]; exact hl.1) rfl dX5_init_1 (Nat.le_of_ble_eq_true rfl) (Nat.le_of_ble_eq_true rfl) ?_
  refine W.eq (g2 := F0 m 4 ls []) rfl ?_
  refine lv_aload_n hx hb dX5_init_4 rfl (lv_at hl 0 rfl) ?_
  refine lv_sipush (v := 720) hx hb dX5_init_5 (by decide) ?_
  refine va_newa (atype := .int) (ty := .int) (a0 := (720, .inl (fun _ => 0))) hx hb (hts _ mw_79) rfl hK hP hD hS hA (fun _ => rfl) (by decide) (by decide) (Nat.le_of_ble_eq_true rfl) (Nat.le_of_ble_eq_true rfl) (Nat.le_of_ble_eq_true rfl) dX5_init_8 (fun q8 cA H hK9 hP hD hS => ?_)
  obtain rfl : cI = cA := cls_int hK9 0 2 rfl rfl
  clear hK9
  refine W.widen (k := 1) (n := 720) (Nat.le_of_ble_eq_true rfl) (Nat.le_of_ble_eq_true rfl) ?_
  replace hP : va_P D vwCl [(h0, .inr (5, [.null])), (q8, .inl (cI, 720, .inl (fun _ => 0)))] H := hP
  replace hD : va_D A [(h0, .inr (5, [.null])), (q8, .inl (cI, 720, .inl (fun _ => 0)))] := hD
  refine va_putF (D := D) (ci := 5) (v := .ref q8) (ty := (.array .int)) (C := RX5) (T := TX5) (N := 1) hx hb hts iX5 tyX5 tyX5_ok nmX5 hown hK hP hD hS 0 rfl rfl 0 (by decide) hf11 (fun _ h9 => h9) rfl hin rfl (by decide +kernel) rfl rfl (Nat.le_of_ble_eq_true rfl) dX5_init_10 (fun H locs hP hD hS => ?_)
  replace hP : va_P D vwCl [(h0, .inr (5, [.ref q8])), (q8, .inl (cI, 720, .inl (fun _ => 0)))] H := hP
  replace hD : va_D A [(h0, .inr (5, [.ref q8])), (q8, .inl (cI, 720, .inl (fun _ => 0)))] := hD
  exact cc_cret (fun k => ([h0, q8] : List Nat).getD k 0) hx hb hr hQ hK rfl rfl (hP.sub [0, 1] rfl) (hD.sub [0, 1] (by decide) rfl) hS dX5_init_13 hlocks

def rc_X9 : Room := { frames := 4, cells := 34, slots := 1173, locals := 94 }
def u0_X9 (vX7 : I7) (vX3 : I3) (vX6 : I6) : GS := ((0 : Int32), ((fun _ => 0), (fun _ => 0), (fun _ => 0), (0 : Int32), (0 : Int32), (0 : Int32), (0 : Int32)), ((fun _ => 0), (fun _ => 0)), vX7, vX3, vX6, ((fun _ => 0), (fun _ => 0), (fun _ => 0), (0 : Int32)), ((fun _ => 0), (upd (upd (upd (fun _ => 0) (0 : Int32).toNatClampNeg (-1)) (1 : Int32).toNatClampNeg (-1)) (2 : Int32).toNatClampNeg (-1)), (fun _ => 0)), ((fun _ => 0), (fun _ => 0), (fun _ => 0), (fun _ => 0), (fun _ => 0), (0 : Int32)), (fun _ => 0))
set_option maxHeartbeats 4000000 in
set_option maxRecDepth 100000 in
theorem kc_X9 (l : Launch) (D : va_G) (cI cZ : ClassId) (h0 : Nat) (vX7 : I7) (hiX7 : g_X7_init2 u0_X7 = some vX7) (vX3 : I3) (hiX3 : g_X3_init2 u0_X3 = some vX3) (vX6 : I6) (hiX6 : g_X6_init2 u0_X6 = some vX6) (w' : GS) (h : g_X9_init2 (u0_X9 vX7 vX3 vX6) = some w') : MC l yX9_init (wm yX9_init cX9_init 1 none) rc_X9 D [(cI, .int), (cZ, .boolean)] [(h0, .inr (9, [.int 0, .null, .null, .null, .null, .null, .null, .null, .null, .null]))] (fun ad => wC cI cZ ad w') h0 34 1173 := by
  intro sz
  refine Met.ofW (cc := cX9_init) (maxL := 1) (ret := none) (by decide) rfl ?_
  intro p e s m args below meth c s₁ B hml hv
  obtain ⟨rfl, hsz, hP, hK, hD0, hZ⟩ := hv
  have hx := B.exec
  have hb := B.bytes
  have hr := B.returns
  have hts : ∀ w ∈ Wall, w.before _ s = true := fun w hw => atoms_spec (ws := wm yX9_init cX9_init 1 none) B.pre w (List.mem_cons_of_mem _ hw)
  have hown : s.vm.findClass RX9 = some m.cls := findClass_of_methodNamed B.named
  have hlocks := B.notSynchronized
  have hin : meth.name = "<init>" := (name_of_methodNamed B.named B.method).1
  subst hsz
  have hD := hD0.self (sz := s.heap.size)
  generalize hAe : va_A [(h0, .inr (9, [.int 0, .null, .null, .null, .null, .null, .null, .null, .null, .null]))] s.heap.size = A at hD hZ ⊢
  have hA : ∀ q : Nat, s.heap.size ≤ q → A q := fun q h => by rw [← hAe]; exact Or.inr h
  have hS : va_S A s.heap s.heap [] := va_S.rf
  have hf7 := hts _ mw_274
  have hf16 := hts _ mw_275
  have hf23 := hts _ mw_276
  have hf30 := hts _ mw_277
  have hf37 := hts _ mw_278
  have hf44 := hts _ mw_279
  have hf51 := hts _ mw_280
  have hf58 := hts _ mw_281
  have hf65 := hts _ mw_282
  have hf72 := hts _ mw_283
  have hf80 := hts _ mw_105
  have hf84 := hts _ mw_128
  have hl := lv_entry ([.ref h0]) (n := 1) (Nat.le_of_ble_eq_true rfl)
  rw [lg_entry_eq]
  generalize (lg_sl ([.ref h0]) ++ List.replicate (1 - (lg_sl ([.ref h0])).length) Slot.unset).toArray = ls at hl ⊢
  replace hl : lv_has ls 1 [(0, .ref h0)] := hl
  refine w_gen (fun Q hQ => ?_)
  refine lv_aload_n hx hb dX9_init_0 rfl (lv_at hl 0 rfl) ?_
  refine W.objInit hx hb hown (hts _ mw_41) (hts _ mw_42) (hts _ mw_43) rfl (by rw [hml]; exact hl.1) rfl dX9_init_1 (Nat.le_of_ble_eq_true rfl) (Nat.le_of_ble_eq_true rfl) ?_
  refine W.eq (g2 := F0 m 4 ls []) rfl ?_
  refine lv_aload_n hx hb dX9_init_4 rfl (lv_at hl 0 rfl) ?_
  refine lv_iconst (v := 0) hx hb dX9_init_5 (by decide) ?_
  refine va_put (D := D) (ci := 9) (v := .int 0) (ty := .int) (C := RX9) (T := TX9) (N := 10) hx hb hts iX9 tyX9 tyX9_ok nmX9 hown hK hP hD hS 0 rfl rfl 0 (by decide) hf7 (fun _ h9 => h9) rfl (by decide +kernel) rfl rfl (Nat.le_of_ble_eq_true rfl) dX9_init_6 (fun H locs hP hD hS => ?_)
  replace hP : va_P D vwCl [(h0, .inr (9, [.int 0, .null, .null, .null, .null, .null, .null, .null, .null, .null]))] H := hP
  replace hD : va_D A [(h0, .inr (9, [.int 0, .null, .null, .null, .null, .null, .null, .null, .null, .null]))] := hD
  refine lv_aload_n hx hb dX9_init_9 rfl (lv_at hl 0 rfl) ?_
  refine va_new (ci := 8) (fs := [.null, .null, .null, .int 0, .int 0, .int 0, .int 0]) (C := RX8) (T := TX8) (N := 7) hx hb hts iX8 tyX8 tyX8_ok hown (hts _ mw_44) (hts _ mw_45) (hts _ mw_20) hK hP hD hS hA rfl (fun j hj => by rcases (show j = 0 ∨ j = 1 ∨ j = 2 ∨ j = 3 ∨ j = 4 ∨ j = 5 ∨ j = 6 by omega) with rfl | rfl | rfl | rfl | rfl | rfl | rfl <;> rfl) (Nat.le_of_ble_eq_true rfl) (Nat.le_of_ble_eq_true rfl) dX9_init_10 (fun q10 H hP hD hS => ?_)
  refine W.widen (k := 1) (n := 7) (Nat.le_of_ble_eq_true rfl) (Nat.le_of_ble_eq_true rfl) ?_
  replace hP : va_P D vwCl [(h0, .inr (9, [.int 0, .null, .null, .null, .null, .null, .null, .null, .null, .null])), (q10, .inr (8, [.null, .null, .null, .int 0, .int 0, .int 0, .int 0]))] H := hP
  replace hD : va_D A [(h0, .inr (9, [.int 0, .null, .null, .null, .null, .null, .null, .null, .null, .null])), (q10, .inr (8, [.null, .null, .null, .int 0, .int 0, .int 0, .int 0]))] := hD
  refine lv_dup hx hb dX9_init_13 rfl ?_
  refine cc_cIN (rest := [.ref q10, .ref h0]) (wr := [(h0, .inr (9, [.int 0, .null, .null, .null, .null, .null, .null, .null, .null, .null]))]) ⟨hx, hb, hml, hown, hts⟩ (kc_X8 l D cI cZ q10) ⟨va_cnB 0 hts (gwM mw_48) rfl rfl rfl (hZ.1 ("RedcrossGantry", 15, yX8_init) (by decide +kernel)) (hts _ mw_20) (by decide +kernel) ⟨Nat.le_of_ble_eq_true rfl, Nat.le_of_ble_eq_true rfl⟩, rfl, hts _ mw_47⟩ hK hP hD hS hA hZ [1] [0] rfl rfl (by decide) rfl (by decide) (by decide) hl.1 rfl (Nat.le_of_ble_eq_true rfl) dX9_init_14 ⟨Nat.le_of_ble_eq_true rfl, Nat.le_of_ble_eq_true rfl⟩ (fun aX8 H locs eaX8 hP9 hD9 hS => ?_)
  subst eaX8
  refine W.widen (k := 4) (n := 115) (Nat.le_of_ble_eq_true rfl) (Nat.le_of_ble_eq_true rfl) ?_
  replace hP : va_P D vwCl [(h0, .inr (9, [.int 0, .null, .null, .null, .null, .null, .null, .null, .null, .null])), ((aX8 0), .inr (8, [.ref (aX8 1), .ref (aX8 2), .ref (aX8 3), .int 0, .int 0, .int 0, .int 0])), ((aX8 1), .inl (cI, 48, .inl (fun _ => 0))), ((aX8 2), .inl (cZ, 48, .inl (fun _ => 0))), ((aX8 3), .inl (cZ, 12, .inl (fun _ => 0)))] H := hP9
  replace hD : va_D A [(h0, .inr (9, [.int 0, .null, .null, .null, .null, .null, .null, .null, .null, .null])), ((aX8 0), .inr (8, [.ref (aX8 1), .ref (aX8 2), .ref (aX8 3), .int 0, .int 0, .int 0, .int 0])), ((aX8 1), .inl (cI, 48, .inl (fun _ => 0))), ((aX8 2), .inl (cZ, 48, .inl (fun _ => 0))), ((aX8 3), .inl (cZ, 12, .inl (fun _ => 0)))] := hD9
  refine va_putF (D := D) (ci := 9) (v := .ref (aX8 0)) (ty := (.object "RedcrossGantry$Traffic")) (C := RX9) (T := TX9) (N := 10) hx hb hts iX9 tyX9 tyX9_ok nmX9 hown hK hP hD hS 0 rfl rfl 1 (by decide) hf16 (fun _ h9 => h9) rfl hin rfl (by decide +kernel) rfl rfl (Nat.le_of_ble_eq_true rfl) dX9_init_17 (fun H locs hP hD hS => ?_)
  replace hP : va_P D vwCl [(h0, .inr (9, [.int 0, .ref (aX8 0), .null, .null, .null, .null, .null, .null, .null, .null])), ((aX8 0), .inr (8, [.ref (aX8 1), .ref (aX8 2), .ref (aX8 3), .int 0, .int 0, .int 0, .int 0])), ((aX8 1), .inl (cI, 48, .inl (fun _ => 0))), ((aX8 2), .inl (cZ, 48, .inl (fun _ => 0))), ((aX8 3), .inl (cZ, 12, .inl (fun _ => 0)))] H := hP
  replace hD : va_D A [(h0, .inr (9, [.int 0, .ref (aX8 0), .null, .null, .null, .null, .null, .null, .null, .null])), ((aX8 0), .inr (8, [.ref (aX8 1), .ref (aX8 2), .ref (aX8 3), .int 0, .int 0, .int 0, .int 0])), ((aX8 1), .inl (cI, 48, .inl (fun _ => 0))), ((aX8 2), .inl (cZ, 48, .inl (fun _ => 0))), ((aX8 3), .inl (cZ, 12, .inl (fun _ => 0)))] := hD
  refine lv_aload_n hx hb dX9_init_20 rfl (lv_at hl 0 rfl) ?_
  refine va_new (ci := 1) (fs := [.null, .null]) (C := RX1) (T := TX1) (N := 2) hx hb hts iX1 tyX1 tyX1_ok hown (hts _ mw_81) (hts _ mw_82) (hts _ mw_21) hK hP hD hS hA rfl (fun j hj => by rcases (show j = 0 ∨ j = 1 by omega) with rfl | rfl <;> rfl) (Nat.le_of_ble_eq_true rfl) (Nat.le_of_ble_eq_true rfl) dX9_init_21 (fun q21 H hP hD hS => ?_)
  refine W.widen (k := 5) (n := 117) (Nat.le_of_ble_eq_true rfl) (Nat.le_of_ble_eq_true rfl) ?_
  replace hP : va_P D vwCl [(h0, .inr (9, [.int 0, .ref (aX8 0), .null, .null, .null, .null, .null, .null, .null, .null])), ((aX8 0), .inr (8, [.ref (aX8 1), .ref (aX8 2), .ref (aX8 3), .int 0, .int 0, .int 0, .int 0])), ((aX8 1), .inl (cI, 48, .inl (fun _ => 0))), ((aX8 2), .inl (cZ, 48, .inl (fun _ => 0))), ((aX8 3), .inl (cZ, 12, .inl (fun _ => 0))), (q21, .inr (1, [.null, .null]))] H := hP
  replace hD : va_D A [(h0, .inr (9, [.int 0, .ref (aX8 0), .null, .null, .null, .null, .null, .null, .null, .null])), ((aX8 0), .inr (8, [.ref (aX8 1), .ref (aX8 2), .ref (aX8 3), .int 0, .int 0, .int 0, .int 0])), ((aX8 1), .inl (cI, 48, .inl (fun _ => 0))), ((aX8 2), .inl (cZ, 48, .inl (fun _ => 0))), ((aX8 3), .inl (cZ, 12, .inl (fun _ => 0))), (q21, .inr (1, [.null, .null]))] := hD
  refine lv_dup hx hb dX9_init_24 rfl ?_
  refine cc_cIN (rest := [.ref q21, .ref h0]) (wr := [(h0, .inr (9, [.int 0, .ref (aX8 0), .null, .null, .null, .null, .null, .null, .null, .null])), ((aX8 0), .inr (8, [.ref (aX8 1), .ref (aX8 2), .ref (aX8 3), .int 0, .int 0, .int 0, .int 0])), ((aX8 1), .inl (cI, 48, .inl (fun _ => 0))), ((aX8 2), .inl (cZ, 48, .inl (fun _ => 0))), ((aX8 3), .inl (cZ, 12, .inl (fun _ => 0)))]) ⟨hx, hb, hml, hown, hts⟩ (kc_X1 l D cI cZ q21) ⟨va_cnB 0 hts (gwM mw_85) rfl rfl rfl (hZ.1 ("RedcrossGantry", 22, yX1_init) (by decide +kernel)) (hts _ mw_21) (by decide +kernel) ⟨Nat.le_of_ble_eq_true rfl, Nat.le_of_ble_eq_true rfl⟩, rfl, hts _ mw_84⟩ hK hP hD hS hA hZ [5] [0, 1, 2, 3, 4] rfl rfl (by decide) rfl (by decide) (by decide) hl.1 rfl (Nat.le_of_ble_eq_true rfl) dX9_init_25 ⟨Nat.le_of_ble_eq_true rfl, Nat.le_of_ble_eq_true rfl⟩ (fun aX1 H locs eaX1 hP9 hD9 hS => ?_)
  subst eaX1
  refine W.widen (k := 7) (n := 141) (Nat.le_of_ble_eq_true rfl) (Nat.le_of_ble_eq_true rfl) ?_
  replace hP : va_P D vwCl [(h0, .inr (9, [.int 0, .ref (aX8 0), .null, .null, .null, .null, .null, .null, .null, .null])), ((aX8 0), .inr (8, [.ref (aX8 1), .ref (aX8 2), .ref (aX8 3), .int 0, .int 0, .int 0, .int 0])), ((aX8 1), .inl (cI, 48, .inl (fun _ => 0))), ((aX8 2), .inl (cZ, 48, .inl (fun _ => 0))), ((aX8 3), .inl (cZ, 12, .inl (fun _ => 0))), ((aX1 0), .inr (1, [.ref (aX1 1), .ref (aX1 2)])), ((aX1 1), .inl (cI, 12, .inl (fun _ => 0))), ((aX1 2), .inl (cI, 12, .inl (fun _ => 0)))] H := hP9
  replace hD : va_D A [(h0, .inr (9, [.int 0, .ref (aX8 0), .null, .null, .null, .null, .null, .null, .null, .null])), ((aX8 0), .inr (8, [.ref (aX8 1), .ref (aX8 2), .ref (aX8 3), .int 0, .int 0, .int 0, .int 0])), ((aX8 1), .inl (cI, 48, .inl (fun _ => 0))), ((aX8 2), .inl (cZ, 48, .inl (fun _ => 0))), ((aX8 3), .inl (cZ, 12, .inl (fun _ => 0))), ((aX1 0), .inr (1, [.ref (aX1 1), .ref (aX1 2)])), ((aX1 1), .inl (cI, 12, .inl (fun _ => 0))), ((aX1 2), .inl (cI, 12, .inl (fun _ => 0)))] := hD9
  refine va_putF (D := D) (ci := 9) (v := .ref (aX1 0)) (ty := (.object "RedcrossGantry$Detectors")) (C := RX9) (T := TX9) (N := 10) hx hb hts iX9 tyX9 tyX9_ok nmX9 hown hK hP hD hS 0 rfl rfl 2 (by decide) hf23 (fun _ h9 => h9) rfl hin rfl (by decide +kernel) rfl rfl (Nat.le_of_ble_eq_true rfl) dX9_init_28 (fun H locs hP hD hS => ?_)
  replace hP : va_P D vwCl [(h0, .inr (9, [.int 0, .ref (aX8 0), .ref (aX1 0), .null, .null, .null, .null, .null, .null, .null])), ((aX8 0), .inr (8, [.ref (aX8 1), .ref (aX8 2), .ref (aX8 3), .int 0, .int 0, .int 0, .int 0])), ((aX8 1), .inl (cI, 48, .inl (fun _ => 0))), ((aX8 2), .inl (cZ, 48, .inl (fun _ => 0))), ((aX8 3), .inl (cZ, 12, .inl (fun _ => 0))), ((aX1 0), .inr (1, [.ref (aX1 1), .ref (aX1 2)])), ((aX1 1), .inl (cI, 12, .inl (fun _ => 0))), ((aX1 2), .inl (cI, 12, .inl (fun _ => 0)))] H := hP
  replace hD : va_D A [(h0, .inr (9, [.int 0, .ref (aX8 0), .ref (aX1 0), .null, .null, .null, .null, .null, .null, .null])), ((aX8 0), .inr (8, [.ref (aX8 1), .ref (aX8 2), .ref (aX8 3), .int 0, .int 0, .int 0, .int 0])), ((aX8 1), .inl (cI, 48, .inl (fun _ => 0))), ((aX8 2), .inl (cZ, 48, .inl (fun _ => 0))), ((aX8 3), .inl (cZ, 12, .inl (fun _ => 0))), ((aX1 0), .inr (1, [.ref (aX1 1), .ref (aX1 2)])), ((aX1 1), .inl (cI, 12, .inl (fun _ => 0))), ((aX1 2), .inl (cI, 12, .inl (fun _ => 0)))] := hD
  refine lv_aload_n hx hb dX9_init_31 rfl (lv_at hl 0 rfl) ?_
  refine va_new (ci := 7) (fs := [.null, .null, .null, .int 0]) (C := RX7) (T := TX7) (N := 4) hx hb hts iX7 tyX7 tyX7_ok hown (hts _ mw_96) (hts _ mw_97) (hts _ mw_22) hK hP hD hS hA rfl (fun j hj => by rcases (show j = 0 ∨ j = 1 ∨ j = 2 ∨ j = 3 by omega) with rfl | rfl | rfl | rfl <;> rfl) (Nat.le_of_ble_eq_true rfl) (Nat.le_of_ble_eq_true rfl) dX9_init_32 (fun q32 H hP hD hS => ?_)
  refine W.widen (k := 8) (n := 145) (Nat.le_of_ble_eq_true rfl) (Nat.le_of_ble_eq_true rfl) ?_
  replace hP : va_P D vwCl [(h0, .inr (9, [.int 0, .ref (aX8 0), .ref (aX1 0), .null, .null, .null, .null, .null, .null, .null])), ((aX8 0), .inr (8, [.ref (aX8 1), .ref (aX8 2), .ref (aX8 3), .int 0, .int 0, .int 0, .int 0])), ((aX8 1), .inl (cI, 48, .inl (fun _ => 0))), ((aX8 2), .inl (cZ, 48, .inl (fun _ => 0))), ((aX8 3), .inl (cZ, 12, .inl (fun _ => 0))), ((aX1 0), .inr (1, [.ref (aX1 1), .ref (aX1 2)])), ((aX1 1), .inl (cI, 12, .inl (fun _ => 0))), ((aX1 2), .inl (cI, 12, .inl (fun _ => 0))), (q32, .inr (7, [.null, .null, .null, .int 0]))] H := hP
  replace hD : va_D A [(h0, .inr (9, [.int 0, .ref (aX8 0), .ref (aX1 0), .null, .null, .null, .null, .null, .null, .null])), ((aX8 0), .inr (8, [.ref (aX8 1), .ref (aX8 2), .ref (aX8 3), .int 0, .int 0, .int 0, .int 0])), ((aX8 1), .inl (cI, 48, .inl (fun _ => 0))), ((aX8 2), .inl (cZ, 48, .inl (fun _ => 0))), ((aX8 3), .inl (cZ, 12, .inl (fun _ => 0))), ((aX1 0), .inr (1, [.ref (aX1 1), .ref (aX1 2)])), ((aX1 1), .inl (cI, 12, .inl (fun _ => 0))), ((aX1 2), .inl (cI, 12, .inl (fun _ => 0))), (q32, .inr (7, [.null, .null, .null, .int 0]))] := hD
  refine lv_dup hx hb dX9_init_35 rfl ?_
  refine cc_cI (rest := [.ref q32, .ref h0]) (wr := [(h0, .inr (9, [.int 0, .ref (aX8 0), .ref (aX1 0), .null, .null, .null, .null, .null, .null, .null])), ((aX8 0), .inr (8, [.ref (aX8 1), .ref (aX8 2), .ref (aX8 3), .int 0, .int 0, .int 0, .int 0])), ((aX8 1), .inl (cI, 48, .inl (fun _ => 0))), ((aX8 2), .inl (cZ, 48, .inl (fun _ => 0))), ((aX8 3), .inl (cZ, 12, .inl (fun _ => 0))), ((aX1 0), .inr (1, [.ref (aX1 1), .ref (aX1 2)])), ((aX1 1), .inl (cI, 12, .inl (fun _ => 0))), ((aX1 2), .inl (cI, 12, .inl (fun _ => 0)))]) ⟨hx, hb, hml, hown, hts⟩ (kc_X7 l D cI cZ q32 vX7 hiX7) (cwI 0 hts (gwM mw_100) rfl rfl rfl (hts _ mw_22) (hts _ mw_98) (hts _ mw_99) rfl (by decide +kernel) ⟨Nat.le_of_ble_eq_true rfl, Nat.le_of_ble_eq_true rfl⟩) hK hP hD hS hA hZ [8] [0, 1, 2, 3, 4, 5, 6, 7] rfl rfl (by decide) rfl (by decide) (by decide) hl.1 rfl (Nat.le_of_ble_eq_true rfl) dX9_init_36 ⟨Nat.le_of_ble_eq_true rfl, Nat.le_of_ble_eq_true rfl⟩ (fun aX7 H locs eaX7 hP9 hD9 hS => ?_)
  subst eaX7
  refine W.widen (k := 11) (n := 181) (Nat.le_of_ble_eq_true rfl) (Nat.le_of_ble_eq_true rfl) ?_
  replace hP : va_P D vwCl [(h0, .inr (9, [.int 0, .ref (aX8 0), .ref (aX1 0), .null, .null, .null, .null, .null, .null, .null])), ((aX8 0), .inr (8, [.ref (aX8 1), .ref (aX8 2), .ref (aX8 3), .int 0, .int 0, .int 0, .int 0])), ((aX8 1), .inl (cI, 48, .inl (fun _ => 0))), ((aX8 2), .inl (cZ, 48, .inl (fun _ => 0))), ((aX8 3), .inl (cZ, 12, .inl (fun _ => 0))), ((aX1 0), .inr (1, [.ref (aX1 1), .ref (aX1 2)])), ((aX1 1), .inl (cI, 12, .inl (fun _ => 0))), ((aX1 2), .inl (cI, 12, .inl (fun _ => 0))), ((aX7 0), .inr (7, [.ref (aX7 1), .ref (aX7 2), .ref (aX7 3), .int (i7_weather vX7)])), ((aX7 1), .inl (cI, 12, .inl (i7_limits vX7))), ((aX7 2), .inl (cI, 12, .inl (i7_shown vX7))), ((aX7 3), .inl (cI, 12, .inl (i7_loweredAt vX7)))] H := hP9
  replace hD : va_D A [(h0, .inr (9, [.int 0, .ref (aX8 0), .ref (aX1 0), .null, .null, .null, .null, .null, .null, .null])), ((aX8 0), .inr (8, [.ref (aX8 1), .ref (aX8 2), .ref (aX8 3), .int 0, .int 0, .int 0, .int 0])), ((aX8 1), .inl (cI, 48, .inl (fun _ => 0))), ((aX8 2), .inl (cZ, 48, .inl (fun _ => 0))), ((aX8 3), .inl (cZ, 12, .inl (fun _ => 0))), ((aX1 0), .inr (1, [.ref (aX1 1), .ref (aX1 2)])), ((aX1 1), .inl (cI, 12, .inl (fun _ => 0))), ((aX1 2), .inl (cI, 12, .inl (fun _ => 0))), ((aX7 0), .inr (7, [.ref (aX7 1), .ref (aX7 2), .ref (aX7 3), .int (i7_weather vX7)])), ((aX7 1), .inl (cI, 12, .inl (i7_limits vX7))), ((aX7 2), .inl (cI, 12, .inl (i7_shown vX7))), ((aX7 3), .inl (cI, 12, .inl (i7_loweredAt vX7)))] := hD9
  refine va_putF (D := D) (ci := 9) (v := .ref (aX7 0)) (ty := (.object "RedcrossGantry$SpeedSigns")) (C := RX9) (T := TX9) (N := 10) hx hb hts iX9 tyX9 tyX9_ok nmX9 hown hK hP hD hS 0 rfl rfl 3 (by decide) hf30 (fun _ h9 => h9) rfl hin rfl (by decide +kernel) rfl rfl (Nat.le_of_ble_eq_true rfl) dX9_init_39 (fun H locs hP hD hS => ?_)
  replace hP : va_P D vwCl [(h0, .inr (9, [.int 0, .ref (aX8 0), .ref (aX1 0), .ref (aX7 0), .null, .null, .null, .null, .null, .null])), ((aX8 0), .inr (8, [.ref (aX8 1), .ref (aX8 2), .ref (aX8 3), .int 0, .int 0, .int 0, .int 0])), ((aX8 1), .inl (cI, 48, .inl (fun _ => 0))), ((aX8 2), .inl (cZ, 48, .inl (fun _ => 0))), ((aX8 3), .inl (cZ, 12, .inl (fun _ => 0))), ((aX1 0), .inr (1, [.ref (aX1 1), .ref (aX1 2)])), ((aX1 1), .inl (cI, 12, .inl (fun _ => 0))), ((aX1 2), .inl (cI, 12, .inl (fun _ => 0))), ((aX7 0), .inr (7, [.ref (aX7 1), .ref (aX7 2), .ref (aX7 3), .int (i7_weather vX7)])), ((aX7 1), .inl (cI, 12, .inl (i7_limits vX7))), ((aX7 2), .inl (cI, 12, .inl (i7_shown vX7))), ((aX7 3), .inl (cI, 12, .inl (i7_loweredAt vX7)))] H := hP
  replace hD : va_D A [(h0, .inr (9, [.int 0, .ref (aX8 0), .ref (aX1 0), .ref (aX7 0), .null, .null, .null, .null, .null, .null])), ((aX8 0), .inr (8, [.ref (aX8 1), .ref (aX8 2), .ref (aX8 3), .int 0, .int 0, .int 0, .int 0])), ((aX8 1), .inl (cI, 48, .inl (fun _ => 0))), ((aX8 2), .inl (cZ, 48, .inl (fun _ => 0))), ((aX8 3), .inl (cZ, 12, .inl (fun _ => 0))), ((aX1 0), .inr (1, [.ref (aX1 1), .ref (aX1 2)])), ((aX1 1), .inl (cI, 12, .inl (fun _ => 0))), ((aX1 2), .inl (cI, 12, .inl (fun _ => 0))), ((aX7 0), .inr (7, [.ref (aX7 1), .ref (aX7 2), .ref (aX7 3), .int (i7_weather vX7)])), ((aX7 1), .inl (cI, 12, .inl (i7_limits vX7))), ((aX7 2), .inl (cI, 12, .inl (i7_shown vX7))), ((aX7 3), .inl (cI, 12, .inl (i7_loweredAt vX7)))] := hD
  refine lv_aload_n hx hb dX9_init_42 rfl (lv_at hl 0 rfl) ?_
  refine va_new (ci := 3) (fs := [.null, .null, .null]) (C := RX3) (T := TX3) (N := 3) hx hb hts iX3 tyX3 tyX3_ok hown (hts _ mw_118) (hts _ mw_119) (hts _ mw_23) hK hP hD hS hA rfl (fun j hj => by rcases (show j = 0 ∨ j = 1 ∨ j = 2 by omega) with rfl | rfl | rfl <;> rfl) (Nat.le_of_ble_eq_true rfl) (Nat.le_of_ble_eq_true rfl) dX9_init_43 (fun q43 H hP hD hS => ?_)
  refine W.widen (k := 12) (n := 184) (Nat.le_of_ble_eq_true rfl) (Nat.le_of_ble_eq_true rfl) ?_
  replace hP : va_P D vwCl [(h0, .inr (9, [.int 0, .ref (aX8 0), .ref (aX1 0), .ref (aX7 0), .null, .null, .null, .null, .null, .null])), ((aX8 0), .inr (8, [.ref (aX8 1), .ref (aX8 2), .ref (aX8 3), .int 0, .int 0, .int 0, .int 0])), ((aX8 1), .inl (cI, 48, .inl (fun _ => 0))), ((aX8 2), .inl (cZ, 48, .inl (fun _ => 0))), ((aX8 3), .inl (cZ, 12, .inl (fun _ => 0))), ((aX1 0), .inr (1, [.ref (aX1 1), .ref (aX1 2)])), ((aX1 1), .inl (cI, 12, .inl (fun _ => 0))), ((aX1 2), .inl (cI, 12, .inl (fun _ => 0))), ((aX7 0), .inr (7, [.ref (aX7 1), .ref (aX7 2), .ref (aX7 3), .int (i7_weather vX7)])), ((aX7 1), .inl (cI, 12, .inl (i7_limits vX7))), ((aX7 2), .inl (cI, 12, .inl (i7_shown vX7))), ((aX7 3), .inl (cI, 12, .inl (i7_loweredAt vX7))), (q43, .inr (3, [.null, .null, .null]))] H := hP
  replace hD : va_D A [(h0, .inr (9, [.int 0, .ref (aX8 0), .ref (aX1 0), .ref (aX7 0), .null, .null, .null, .null, .null, .null])), ((aX8 0), .inr (8, [.ref (aX8 1), .ref (aX8 2), .ref (aX8 3), .int 0, .int 0, .int 0, .int 0])), ((aX8 1), .inl (cI, 48, .inl (fun _ => 0))), ((aX8 2), .inl (cZ, 48, .inl (fun _ => 0))), ((aX8 3), .inl (cZ, 12, .inl (fun _ => 0))), ((aX1 0), .inr (1, [.ref (aX1 1), .ref (aX1 2)])), ((aX1 1), .inl (cI, 12, .inl (fun _ => 0))), ((aX1 2), .inl (cI, 12, .inl (fun _ => 0))), ((aX7 0), .inr (7, [.ref (aX7 1), .ref (aX7 2), .ref (aX7 3), .int (i7_weather vX7)])), ((aX7 1), .inl (cI, 12, .inl (i7_limits vX7))), ((aX7 2), .inl (cI, 12, .inl (i7_shown vX7))), ((aX7 3), .inl (cI, 12, .inl (i7_loweredAt vX7))), (q43, .inr (3, [.null, .null, .null]))] := hD
  refine lv_dup hx hb dX9_init_46 rfl ?_
  refine cc_cI (rest := [.ref q43, .ref h0]) (wr := [(h0, .inr (9, [.int 0, .ref (aX8 0), .ref (aX1 0), .ref (aX7 0), .null, .null, .null, .null, .null, .null])), ((aX8 0), .inr (8, [.ref (aX8 1), .ref (aX8 2), .ref (aX8 3), .int 0, .int 0, .int 0, .int 0])), ((aX8 1), .inl (cI, 48, .inl (fun _ => 0))), ((aX8 2), .inl (cZ, 48, .inl (fun _ => 0))), ((aX8 3), .inl (cZ, 12, .inl (fun _ => 0))), ((aX1 0), .inr (1, [.ref (aX1 1), .ref (aX1 2)])), ((aX1 1), .inl (cI, 12, .inl (fun _ => 0))), ((aX1 2), .inl (cI, 12, .inl (fun _ => 0))), ((aX7 0), .inr (7, [.ref (aX7 1), .ref (aX7 2), .ref (aX7 3), .int (i7_weather vX7)])), ((aX7 1), .inl (cI, 12, .inl (i7_limits vX7))), ((aX7 2), .inl (cI, 12, .inl (i7_shown vX7))), ((aX7 3), .inl (cI, 12, .inl (i7_loweredAt vX7)))]) ⟨hx, hb, hml, hown, hts⟩ (kc_X3 l D cI cZ q43 vX3 hiX3) (cwI 0 hts (gwM mw_122) rfl rfl rfl (hts _ mw_23) (hts _ mw_120) (hts _ mw_121) rfl (by decide +kernel) ⟨Nat.le_of_ble_eq_true rfl, Nat.le_of_ble_eq_true rfl⟩) hK hP hD hS hA hZ [12] [0, 1, 2, 3, 4, 5, 6, 7, 8, 9, 10, 11] rfl rfl (by decide) rfl (by decide) (by decide) hl.1 rfl (Nat.le_of_ble_eq_true rfl) dX9_init_47 ⟨Nat.le_of_ble_eq_true rfl, Nat.le_of_ble_eq_true rfl⟩ (fun aX3 H locs eaX3 hP9 hD9 hS => ?_)
  subst eaX3
  refine W.widen (k := 15) (n := 328) (Nat.le_of_ble_eq_true rfl) (Nat.le_of_ble_eq_true rfl) ?_
  replace hP : va_P D vwCl [(h0, .inr (9, [.int 0, .ref (aX8 0), .ref (aX1 0), .ref (aX7 0), .null, .null, .null, .null, .null, .null])), ((aX8 0), .inr (8, [.ref (aX8 1), .ref (aX8 2), .ref (aX8 3), .int 0, .int 0, .int 0, .int 0])), ((aX8 1), .inl (cI, 48, .inl (fun _ => 0))), ((aX8 2), .inl (cZ, 48, .inl (fun _ => 0))), ((aX8 3), .inl (cZ, 12, .inl (fun _ => 0))), ((aX1 0), .inr (1, [.ref (aX1 1), .ref (aX1 2)])), ((aX1 1), .inl (cI, 12, .inl (fun _ => 0))), ((aX1 2), .inl (cI, 12, .inl (fun _ => 0))), ((aX7 0), .inr (7, [.ref (aX7 1), .ref (aX7 2), .ref (aX7 3), .int (i7_weather vX7)])), ((aX7 1), .inl (cI, 12, .inl (i7_limits vX7))), ((aX7 2), .inl (cI, 12, .inl (i7_shown vX7))), ((aX7 3), .inl (cI, 12, .inl (i7_loweredAt vX7))), ((aX3 0), .inr (3, [.ref (aX3 1), .ref (aX3 2), .ref (aX3 3)])), ((aX3 1), .inl (cI, 48, .inl (i3_orders vX3))), ((aX3 2), .inl (cI, 48, .inl (i3_told vX3))), ((aX3 3), .inl (cI, 48, .inl (i3_shown vX3)))] H := hP9
  replace hD : va_D A [(h0, .inr (9, [.int 0, .ref (aX8 0), .ref (aX1 0), .ref (aX7 0), .null, .null, .null, .null, .null, .null])), ((aX8 0), .inr (8, [.ref (aX8 1), .ref (aX8 2), .ref (aX8 3), .int 0, .int 0, .int 0, .int 0])), ((aX8 1), .inl (cI, 48, .inl (fun _ => 0))), ((aX8 2), .inl (cZ, 48, .inl (fun _ => 0))), ((aX8 3), .inl (cZ, 12, .inl (fun _ => 0))), ((aX1 0), .inr (1, [.ref (aX1 1), .ref (aX1 2)])), ((aX1 1), .inl (cI, 12, .inl (fun _ => 0))), ((aX1 2), .inl (cI, 12, .inl (fun _ => 0))), ((aX7 0), .inr (7, [.ref (aX7 1), .ref (aX7 2), .ref (aX7 3), .int (i7_weather vX7)])), ((aX7 1), .inl (cI, 12, .inl (i7_limits vX7))), ((aX7 2), .inl (cI, 12, .inl (i7_shown vX7))), ((aX7 3), .inl (cI, 12, .inl (i7_loweredAt vX7))), ((aX3 0), .inr (3, [.ref (aX3 1), .ref (aX3 2), .ref (aX3 3)])), ((aX3 1), .inl (cI, 48, .inl (i3_orders vX3))), ((aX3 2), .inl (cI, 48, .inl (i3_told vX3))), ((aX3 3), .inl (cI, 48, .inl (i3_shown vX3)))] := hD9
  refine va_putF (D := D) (ci := 9) (v := .ref (aX3 0)) (ty := (.object "RedcrossGantry$LaneSigns")) (C := RX9) (T := TX9) (N := 10) hx hb hts iX9 tyX9 tyX9_ok nmX9 hown hK hP hD hS 0 rfl rfl 4 (by decide) hf37 (fun _ h9 => h9) rfl hin rfl (by decide +kernel) rfl rfl (Nat.le_of_ble_eq_true rfl) dX9_init_50 (fun H locs hP hD hS => ?_)
  replace hP : va_P D vwCl [(h0, .inr (9, [.int 0, .ref (aX8 0), .ref (aX1 0), .ref (aX7 0), .ref (aX3 0), .null, .null, .null, .null, .null])), ((aX8 0), .inr (8, [.ref (aX8 1), .ref (aX8 2), .ref (aX8 3), .int 0, .int 0, .int 0, .int 0])), ((aX8 1), .inl (cI, 48, .inl (fun _ => 0))), ((aX8 2), .inl (cZ, 48, .inl (fun _ => 0))), ((aX8 3), .inl (cZ, 12, .inl (fun _ => 0))), ((aX1 0), .inr (1, [.ref (aX1 1), .ref (aX1 2)])), ((aX1 1), .inl (cI, 12, .inl (fun _ => 0))), ((aX1 2), .inl (cI, 12, .inl (fun _ => 0))), ((aX7 0), .inr (7, [.ref (aX7 1), .ref (aX7 2), .ref (aX7 3), .int (i7_weather vX7)])), ((aX7 1), .inl (cI, 12, .inl (i7_limits vX7))), ((aX7 2), .inl (cI, 12, .inl (i7_shown vX7))), ((aX7 3), .inl (cI, 12, .inl (i7_loweredAt vX7))), ((aX3 0), .inr (3, [.ref (aX3 1), .ref (aX3 2), .ref (aX3 3)])), ((aX3 1), .inl (cI, 48, .inl (i3_orders vX3))), ((aX3 2), .inl (cI, 48, .inl (i3_told vX3))), ((aX3 3), .inl (cI, 48, .inl (i3_shown vX3)))] H := hP
  replace hD : va_D A [(h0, .inr (9, [.int 0, .ref (aX8 0), .ref (aX1 0), .ref (aX7 0), .ref (aX3 0), .null, .null, .null, .null, .null])), ((aX8 0), .inr (8, [.ref (aX8 1), .ref (aX8 2), .ref (aX8 3), .int 0, .int 0, .int 0, .int 0])), ((aX8 1), .inl (cI, 48, .inl (fun _ => 0))), ((aX8 2), .inl (cZ, 48, .inl (fun _ => 0))), ((aX8 3), .inl (cZ, 12, .inl (fun _ => 0))), ((aX1 0), .inr (1, [.ref (aX1 1), .ref (aX1 2)])), ((aX1 1), .inl (cI, 12, .inl (fun _ => 0))), ((aX1 2), .inl (cI, 12, .inl (fun _ => 0))), ((aX7 0), .inr (7, [.ref (aX7 1), .ref (aX7 2), .ref (aX7 3), .int (i7_weather vX7)])), ((aX7 1), .inl (cI, 12, .inl (i7_limits vX7))), ((aX7 2), .inl (cI, 12, .inl (i7_shown vX7))), ((aX7 3), .inl (cI, 12, .inl (i7_loweredAt vX7))), ((aX3 0), .inr (3, [.ref (aX3 1), .ref (aX3 2), .ref (aX3 3)])), ((aX3 1), .inl (cI, 48, .inl (i3_orders vX3))), ((aX3 2), .inl (cI, 48, .inl (i3_told vX3))), ((aX3 3), .inl (cI, 48, .inl (i3_shown vX3)))] := hD
  refine lv_aload_n hx hb dX9_init_53 rfl (lv_at hl 0 rfl) ?_
  refine va_new (ci := 6) (fs := [.null, .null]) (C := RX6) (T := TX6) (N := 2) hx hb hts iX6 tyX6 tyX6_ok hown (hts _ mw_136) (hts _ mw_137) (hts _ mw_24) hK hP hD hS hA rfl (fun j hj => by rcases (show j = 0 ∨ j = 1 by omega) with rfl | rfl <;> rfl) (Nat.le_of_ble_eq_true rfl) (Nat.le_of_ble_eq_true rfl) dX9_init_54 (fun q54 H hP hD hS => ?_)
  refine W.widen (k := 16) (n := 330) (Nat.le_of_ble_eq_true rfl) (Nat.le_of_ble_eq_true rfl) ?_
  replace hP : va_P D vwCl [(h0, .inr (9, [.int 0, .ref (aX8 0), .ref (aX1 0), .ref (aX7 0), .ref (aX3 0), .null, .null, .null, .null, .null])), ((aX8 0), .inr (8, [.ref (aX8 1), .ref (aX8 2), .ref (aX8 3), .int 0, .int 0, .int 0, .int 0])), ((aX8 1), .inl (cI, 48, .inl (fun _ => 0))), ((aX8 2), .inl (cZ, 48, .inl (fun _ => 0))), ((aX8 3), .inl (cZ, 12, .inl (fun _ => 0))), ((aX1 0), .inr (1, [.ref (aX1 1), .ref (aX1 2)])), ((aX1 1), .inl (cI, 12, .inl (fun _ => 0))), ((aX1 2), .inl (cI, 12, .inl (fun _ => 0))), ((aX7 0), .inr (7, [.ref (aX7 1), .ref (aX7 2), .ref (aX7 3), .int (i7_weather vX7)])), ((aX7 1), .inl (cI, 12, .inl (i7_limits vX7))), ((aX7 2), .inl (cI, 12, .inl (i7_shown vX7))), ((aX7 3), .inl (cI, 12, .inl (i7_loweredAt vX7))), ((aX3 0), .inr (3, [.ref (aX3 1), .ref (aX3 2), .ref (aX3 3)])), ((aX3 1), .inl (cI, 48, .inl (i3_orders vX3))), ((aX3 2), .inl (cI, 48, .inl (i3_told vX3))), ((aX3 3), .inl (cI, 48, .inl (i3_shown vX3))), (q54, .inr (6, [.null, .null]))] H := hP
  replace hD : va_D A [(h0, .inr (9, [.int 0, .ref (aX8 0), .ref (aX1 0), .ref (aX7 0), .ref (aX3 0), .null, .null, .null, .null, .null])), ((aX8 0), .inr (8, [.ref (aX8 1), .ref (aX8 2), .ref (aX8 3), .int 0, .int 0, .int 0, .int 0])), ((aX8 1), .inl (cI, 48, .inl (fun _ => 0))), ((aX8 2), .inl (cZ, 48, .inl (fun _ => 0))), ((aX8 3), .inl (cZ, 12, .inl (fun _ => 0))), ((aX1 0), .inr (1, [.ref (aX1 1), .ref (aX1 2)])), ((aX1 1), .inl (cI, 12, .inl (fun _ => 0))), ((aX1 2), .inl (cI, 12, .inl (fun _ => 0))), ((aX7 0), .inr (7, [.ref (aX7 1), .ref (aX7 2), .ref (aX7 3), .int (i7_weather vX7)])), ((aX7 1), .inl (cI, 12, .inl (i7_limits vX7))), ((aX7 2), .inl (cI, 12, .inl (i7_shown vX7))), ((aX7 3), .inl (cI, 12, .inl (i7_loweredAt vX7))), ((aX3 0), .inr (3, [.ref (aX3 1), .ref (aX3 2), .ref (aX3 3)])), ((aX3 1), .inl (cI, 48, .inl (i3_orders vX3))), ((aX3 2), .inl (cI, 48, .inl (i3_told vX3))), ((aX3 3), .inl (cI, 48, .inl (i3_shown vX3))), (q54, .inr (6, [.null, .null]))] := hD
  refine lv_dup hx hb dX9_init_57 rfl ?_
  refine cc_cI (rest := [.ref q54, .ref h0]) (wr := [(h0, .inr (9, [.int 0, .ref (aX8 0), .ref (aX1 0), .ref (aX7 0), .ref (aX3 0), .null, .null, .null, .null, .null])), ((aX8 0), .inr (8, [.ref (aX8 1), .ref (aX8 2), .ref (aX8 3), .int 0, .int 0, .int 0, .int 0])), ((aX8 1), .inl (cI, 48, .inl (fun _ => 0))), ((aX8 2), .inl (cZ, 48, .inl (fun _ => 0))), ((aX8 3), .inl (cZ, 12, .inl (fun _ => 0))), ((aX1 0), .inr (1, [.ref (aX1 1), .ref (aX1 2)])), ((aX1 1), .inl (cI, 12, .inl (fun _ => 0))), ((aX1 2), .inl (cI, 12, .inl (fun _ => 0))), ((aX7 0), .inr (7, [.ref (aX7 1), .ref (aX7 2), .ref (aX7 3), .int (i7_weather vX7)])), ((aX7 1), .inl (cI, 12, .inl (i7_limits vX7))), ((aX7 2), .inl (cI, 12, .inl (i7_shown vX7))), ((aX7 3), .inl (cI, 12, .inl (i7_loweredAt vX7))), ((aX3 0), .inr (3, [.ref (aX3 1), .ref (aX3 2), .ref (aX3 3)])), ((aX3 1), .inl (cI, 48, .inl (i3_orders vX3))), ((aX3 2), .inl (cI, 48, .inl (i3_told vX3))), ((aX3 3), .inl (cI, 48, .inl (i3_shown vX3)))]) ⟨hx, hb, hml, hown, hts⟩ (kc_X6 l D cI cZ q54 vX6 hiX6) (cwI 0 hts (gwM mw_140) rfl rfl rfl (hts _ mw_24) (hts _ mw_138) (hts _ mw_139) rfl (by decide +kernel) ⟨Nat.le_of_ble_eq_true rfl, Nat.le_of_ble_eq_true rfl⟩) hK hP hD hS hA hZ [16] [0, 1, 2, 3, 4, 5, 6, 7, 8, 9, 10, 11, 12, 13, 14, 15] rfl rfl (by decide) rfl (by decide) (by decide) hl.1 rfl (Nat.le_of_ble_eq_true rfl) dX9_init_58 ⟨Nat.le_of_ble_eq_true rfl, Nat.le_of_ble_eq_true rfl⟩ (fun aX6 H locs eaX6 hP9 hD9 hS => ?_)
  subst eaX6
  refine W.widen (k := 18) (n := 354) (Nat.le_of_ble_eq_true rfl) (Nat.le_of_ble_eq_true rfl) ?_
  replace hP : va_P D vwCl [(h0, .inr (9, [.int 0, .ref (aX8 0), .ref (aX1 0), .ref (aX7 0), .ref (aX3 0), .null, .null, .null, .null, .null])), ((aX8 0), .inr (8, [.ref (aX8 1), .ref (aX8 2), .ref (aX8 3), .int 0, .int 0, .int 0, .int 0])), ((aX8 1), .inl (cI, 48, .inl (fun _ => 0))), ((aX8 2), .inl (cZ, 48, .inl (fun _ => 0))), ((aX8 3), .inl (cZ, 12, .inl (fun _ => 0))), ((aX1 0), .inr (1, [.ref (aX1 1), .ref (aX1 2)])), ((aX1 1), .inl (cI, 12, .inl (fun _ => 0))), ((aX1 2), .inl (cI, 12, .inl (fun _ => 0))), ((aX7 0), .inr (7, [.ref (aX7 1), .ref (aX7 2), .ref (aX7 3), .int (i7_weather vX7)])), ((aX7 1), .inl (cI, 12, .inl (i7_limits vX7))), ((aX7 2), .inl (cI, 12, .inl (i7_shown vX7))), ((aX7 3), .inl (cI, 12, .inl (i7_loweredAt vX7))), ((aX3 0), .inr (3, [.ref (aX3 1), .ref (aX3 2), .ref (aX3 3)])), ((aX3 1), .inl (cI, 48, .inl (i3_orders vX3))), ((aX3 2), .inl (cI, 48, .inl (i3_told vX3))), ((aX3 3), .inl (cI, 48, .inl (i3_shown vX3))), ((aX6 0), .inr (6, [.ref (aX6 1), .ref (aX6 2)])), ((aX6 1), .inl (cZ, 12, .inl (i6_open vX6))), ((aX6 2), .inl (cI, 12, .inl (i6_foundClearAt vX6)))] H := hP9
  replace hD : va_D A [(h0, .inr (9, [.int 0, .ref (aX8 0), .ref (aX1 0), .ref (aX7 0), .ref (aX3 0), .null, .null, .null, .null, .null])), ((aX8 0), .inr (8, [.ref (aX8 1), .ref (aX8 2), .ref (aX8 3), .int 0, .int 0, .int 0, .int 0])), ((aX8 1), .inl (cI, 48, .inl (fun _ => 0))), ((aX8 2), .inl (cZ, 48, .inl (fun _ => 0))), ((aX8 3), .inl (cZ, 12, .inl (fun _ => 0))), ((aX1 0), .inr (1, [.ref (aX1 1), .ref (aX1 2)])), ((aX1 1), .inl (cI, 12, .inl (fun _ => 0))), ((aX1 2), .inl (cI, 12, .inl (fun _ => 0))), ((aX7 0), .inr (7, [.ref (aX7 1), .ref (aX7 2), .ref (aX7 3), .int (i7_weather vX7)])), ((aX7 1), .inl (cI, 12, .inl (i7_limits vX7))), ((aX7 2), .inl (cI, 12, .inl (i7_shown vX7))), ((aX7 3), .inl (cI, 12, .inl (i7_loweredAt vX7))), ((aX3 0), .inr (3, [.ref (aX3 1), .ref (aX3 2), .ref (aX3 3)])), ((aX3 1), .inl (cI, 48, .inl (i3_orders vX3))), ((aX3 2), .inl (cI, 48, .inl (i3_told vX3))), ((aX3 3), .inl (cI, 48, .inl (i3_shown vX3))), ((aX6 0), .inr (6, [.ref (aX6 1), .ref (aX6 2)])), ((aX6 1), .inl (cZ, 12, .inl (i6_open vX6))), ((aX6 2), .inl (cI, 12, .inl (i6_foundClearAt vX6)))] := hD9
  refine va_putF (D := D) (ci := 9) (v := .ref (aX6 0)) (ty := (.object "RedcrossGantry$Shoulder")) (C := RX9) (T := TX9) (N := 10) hx hb hts iX9 tyX9 tyX9_ok nmX9 hown hK hP hD hS 0 rfl rfl 5 (by decide) hf44 (fun _ h9 => h9) rfl hin rfl (by decide +kernel) rfl rfl (Nat.le_of_ble_eq_true rfl) dX9_init_61 (fun H locs hP hD hS => ?_)
  replace hP : va_P D vwCl [(h0, .inr (9, [.int 0, .ref (aX8 0), .ref (aX1 0), .ref (aX7 0), .ref (aX3 0), .ref (aX6 0), .null, .null, .null, .null])), ((aX8 0), .inr (8, [.ref (aX8 1), .ref (aX8 2), .ref (aX8 3), .int 0, .int 0, .int 0, .int 0])), ((aX8 1), .inl (cI, 48, .inl (fun _ => 0))), ((aX8 2), .inl (cZ, 48, .inl (fun _ => 0))), ((aX8 3), .inl (cZ, 12, .inl (fun _ => 0))), ((aX1 0), .inr (1, [.ref (aX1 1), .ref (aX1 2)])), ((aX1 1), .inl (cI, 12, .inl (fun _ => 0))), ((aX1 2), .inl (cI, 12, .inl (fun _ => 0))), ((aX7 0), .inr (7, [.ref (aX7 1), .ref (aX7 2), .ref (aX7 3), .int (i7_weather vX7)])), ((aX7 1), .inl (cI, 12, .inl (i7_limits vX7))), ((aX7 2), .inl (cI, 12, .inl (i7_shown vX7))), ((aX7 3), .inl (cI, 12, .inl (i7_loweredAt vX7))), ((aX3 0), .inr (3, [.ref (aX3 1), .ref (aX3 2), .ref (aX3 3)])), ((aX3 1), .inl (cI, 48, .inl (i3_orders vX3))), ((aX3 2), .inl (cI, 48, .inl (i3_told vX3))), ((aX3 3), .inl (cI, 48, .inl (i3_shown vX3))), ((aX6 0), .inr (6, [.ref (aX6 1), .ref (aX6 2)])), ((aX6 1), .inl (cZ, 12, .inl (i6_open vX6))), ((aX6 2), .inl (cI, 12, .inl (i6_foundClearAt vX6)))] H := hP
  replace hD : va_D A [(h0, .inr (9, [.int 0, .ref (aX8 0), .ref (aX1 0), .ref (aX7 0), .ref (aX3 0), .ref (aX6 0), .null, .null, .null, .null])), ((aX8 0), .inr (8, [.ref (aX8 1), .ref (aX8 2), .ref (aX8 3), .int 0, .int 0, .int 0, .int 0])), ((aX8 1), .inl (cI, 48, .inl (fun _ => 0))), ((aX8 2), .inl (cZ, 48, .inl (fun _ => 0))), ((aX8 3), .inl (cZ, 12, .inl (fun _ => 0))), ((aX1 0), .inr (1, [.ref (aX1 1), .ref (aX1 2)])), ((aX1 1), .inl (cI, 12, .inl (fun _ => 0))), ((aX1 2), .inl (cI, 12, .inl (fun _ => 0))), ((aX7 0), .inr (7, [.ref (aX7 1), .ref (aX7 2), .ref (aX7 3), .int (i7_weather vX7)])), ((aX7 1), .inl (cI, 12, .inl (i7_limits vX7))), ((aX7 2), .inl (cI, 12, .inl (i7_shown vX7))), ((aX7 3), .inl (cI, 12, .inl (i7_loweredAt vX7))), ((aX3 0), .inr (3, [.ref (aX3 1), .ref (aX3 2), .ref (aX3 3)])), ((aX3 1), .inl (cI, 48, .inl (i3_orders vX3))), ((aX3 2), .inl (cI, 48, .inl (i3_told vX3))), ((aX3 3), .inl (cI, 48, .inl (i3_shown vX3))), ((aX6 0), .inr (6, [.ref (aX6 1), .ref (aX6 2)])), ((aX6 1), .inl (cZ, 12, .inl (i6_open vX6))), ((aX6 2), .inl (cI, 12, .inl (i6_foundClearAt vX6)))] := hD
  refine lv_aload_n hx hb dX9_init_64 rfl (lv_at hl 0 rfl) ?_
  refine va_new (ci := 2) (fs := [.null, .null, .null, .int 0]) (C := RX2) (T := TX2) (N := 4) hx hb hts iX2 tyX2 tyX2_ok hown (hts _ mw_150) (hts _ mw_151) (hts _ mw_25) hK hP hD hS hA rfl (fun j hj => by rcases (show j = 0 ∨ j = 1 ∨ j = 2 ∨ j = 3 by omega) with rfl | rfl | rfl | rfl <;> rfl) (Nat.le_of_ble_eq_true rfl) (Nat.le_of_ble_eq_true rfl) dX9_init_65 (fun q65 H hP hD hS => ?_)
  refine W.widen (k := 19) (n := 358) (Nat.le_of_ble_eq_true rfl) (Nat.le_of_ble_eq_true rfl) ?_
  replace hP : va_P D vwCl [(h0, .inr (9, [.int 0, .ref (aX8 0), .ref (aX1 0), .ref (aX7 0), .ref (aX3 0), .ref (aX6 0), .null, .null, .null, .null])), ((aX8 0), .inr (8, [.ref (aX8 1), .ref (aX8 2), .ref (aX8 3), .int 0, .int 0, .int 0, .int 0])), ((aX8 1), .inl (cI, 48, .inl (fun _ => 0))), ((aX8 2), .inl (cZ, 48, .inl (fun _ => 0))), ((aX8 3), .inl (cZ, 12, .inl (fun _ => 0))), ((aX1 0), .inr (1, [.ref (aX1 1), .ref (aX1 2)])), ((aX1 1), .inl (cI, 12, .inl (fun _ => 0))), ((aX1 2), .inl (cI, 12, .inl (fun _ => 0))), ((aX7 0), .inr (7, [.ref (aX7 1), .ref (aX7 2), .ref (aX7 3), .int (i7_weather vX7)])), ((aX7 1), .inl (cI, 12, .inl (i7_limits vX7))), ((aX7 2), .inl (cI, 12, .inl (i7_shown vX7))), ((aX7 3), .inl (cI, 12, .inl (i7_loweredAt vX7))), ((aX3 0), .inr (3, [.ref (aX3 1), .ref (aX3 2), .ref (aX3 3)])), ((aX3 1), .inl (cI, 48, .inl (i3_orders vX3))), ((aX3 2), .inl (cI, 48, .inl (i3_told vX3))), ((aX3 3), .inl (cI, 48, .inl (i3_shown vX3))), ((aX6 0), .inr (6, [.ref (aX6 1), .ref (aX6 2)])), ((aX6 1), .inl (cZ, 12, .inl (i6_open vX6))), ((aX6 2), .inl (cI, 12, .inl (i6_foundClearAt vX6))), (q65, .inr (2, [.null, .null, .null, .int 0]))] H := hP
  replace hD : va_D A [(h0, .inr (9, [.int 0, .ref (aX8 0), .ref (aX1 0), .ref (aX7 0), .ref (aX3 0), .ref (aX6 0), .null, .null, .null, .null])), ((aX8 0), .inr (8, [.ref (aX8 1), .ref (aX8 2), .ref (aX8 3), .int 0, .int 0, .int 0, .int 0])), ((aX8 1), .inl (cI, 48, .inl (fun _ => 0))), ((aX8 2), .inl (cZ, 48, .inl (fun _ => 0))), ((aX8 3), .inl (cZ, 12, .inl (fun _ => 0))), ((aX1 0), .inr (1, [.ref (aX1 1), .ref (aX1 2)])), ((aX1 1), .inl (cI, 12, .inl (fun _ => 0))), ((aX1 2), .inl (cI, 12, .inl (fun _ => 0))), ((aX7 0), .inr (7, [.ref (aX7 1), .ref (aX7 2), .ref (aX7 3), .int (i7_weather vX7)])), ((aX7 1), .inl (cI, 12, .inl (i7_limits vX7))), ((aX7 2), .inl (cI, 12, .inl (i7_shown vX7))), ((aX7 3), .inl (cI, 12, .inl (i7_loweredAt vX7))), ((aX3 0), .inr (3, [.ref (aX3 1), .ref (aX3 2), .ref (aX3 3)])), ((aX3 1), .inl (cI, 48, .inl (i3_orders vX3))), ((aX3 2), .inl (cI, 48, .inl (i3_told vX3))), ((aX3 3), .inl (cI, 48, .inl (i3_shown vX3))), ((aX6 0), .inr (6, [.ref (aX6 1), .ref (aX6 2)])), ((aX6 1), .inl (cZ, 12, .inl (i6_open vX6))), ((aX6 2), .inl (cI, 12, .inl (i6_foundClearAt vX6))), (q65, .inr (2, [.null, .null, .null, .int 0]))] := hD
  refine lv_dup hx hb dX9_init_68 rfl ?_
  refine cc_cIN (rest := [.ref q65, .ref h0]) (wr := [(h0, .inr (9, [.int 0, .ref (aX8 0), .ref (aX1 0), .ref (aX7 0), .ref (aX3 0), .ref (aX6 0), .null, .null, .null, .null])), ((aX8 0), .inr (8, [.ref (aX8 1), .ref (aX8 2), .ref (aX8 3), .int 0, .int 0, .int 0, .int 0])), ((aX8 1), .inl (cI, 48, .inl (fun _ => 0))), ((aX8 2), .inl (cZ, 48, .inl (fun _ => 0))), ((aX8 3), .inl (cZ, 12, .inl (fun _ => 0))), ((aX1 0), .inr (1, [.ref (aX1 1), .ref (aX1 2)])), ((aX1 1), .inl (cI, 12, .inl (fun _ => 0))), ((aX1 2), .inl (cI, 12, .inl (fun _ => 0))), ((aX7 0), .inr (7, [.ref (aX7 1), .ref (aX7 2), .ref (aX7 3), .int (i7_weather vX7)])), ((aX7 1), .inl (cI, 12, .inl (i7_limits vX7))), ((aX7 2), .inl (cI, 12, .inl (i7_shown vX7))), ((aX7 3), .inl (cI, 12, .inl (i7_loweredAt vX7))), ((aX3 0), .inr (3, [.ref (aX3 1), .ref (aX3 2), .ref (aX3 3)])), ((aX3 1), .inl (cI, 48, .inl (i3_orders vX3))), ((aX3 2), .inl (cI, 48, .inl (i3_told vX3))), ((aX3 3), .inl (cI, 48, .inl (i3_shown vX3))), ((aX6 0), .inr (6, [.ref (aX6 1), .ref (aX6 2)])), ((aX6 1), .inl (cZ, 12, .inl (i6_open vX6))), ((aX6 2), .inl (cI, 12, .inl (i6_foundClearAt vX6)))]) ⟨hx, hb, hml, hown, hts⟩ (kc_X2 l D cI cZ q65) ⟨va_cnB 0 hts (gwM mw_154) rfl rfl rfl (hZ.1 ("RedcrossGantry", 50, yX2_init) (by decide +kernel)) (hts _ mw_25) (by decide +kernel) ⟨Nat.le_of_ble_eq_true rfl, Nat.le_of_ble_eq_true rfl⟩, rfl, hts _ mw_153⟩ hK hP hD hS hA hZ [19] [0, 1, 2, 3, 4, 5, 6, 7, 8, 9, 10, 11, 12, 13, 14, 15, 16, 17, 18] rfl rfl (by decide) rfl (by decide) (by decide) hl.1 rfl (Nat.le_of_ble_eq_true rfl) dX9_init_69 ⟨Nat.le_of_ble_eq_true rfl, Nat.le_of_ble_eq_true rfl⟩ (fun aX2 H locs eaX2 hP9 hD9 hS => ?_)
  subst eaX2
  refine W.widen (k := 22) (n := 394) (Nat.le_of_ble_eq_true rfl) (Nat.le_of_ble_eq_true rfl) ?_
  replace hP : va_P D vwCl [(h0, .inr (9, [.int 0, .ref (aX8 0), .ref (aX1 0), .ref (aX7 0), .ref (aX3 0), .ref (aX6 0), .null, .null, .null, .null])), ((aX8 0), .inr (8, [.ref (aX8 1), .ref (aX8 2), .ref (aX8 3), .int 0, .int 0, .int 0, .int 0])), ((aX8 1), .inl (cI, 48, .inl (fun _ => 0))), ((aX8 2), .inl (cZ, 48, .inl (fun _ => 0))), ((aX8 3), .inl (cZ, 12, .inl (fun _ => 0))), ((aX1 0), .inr (1, [.ref (aX1 1), .ref (aX1 2)])), ((aX1 1), .inl (cI, 12, .inl (fun _ => 0))), ((aX1 2), .inl (cI, 12, .inl (fun _ => 0))), ((aX7 0), .inr (7, [.ref (aX7 1), .ref (aX7 2), .ref (aX7 3), .int (i7_weather vX7)])), ((aX7 1), .inl (cI, 12, .inl (i7_limits vX7))), ((aX7 2), .inl (cI, 12, .inl (i7_shown vX7))), ((aX7 3), .inl (cI, 12, .inl (i7_loweredAt vX7))), ((aX3 0), .inr (3, [.ref (aX3 1), .ref (aX3 2), .ref (aX3 3)])), ((aX3 1), .inl (cI, 48, .inl (i3_orders vX3))), ((aX3 2), .inl (cI, 48, .inl (i3_told vX3))), ((aX3 3), .inl (cI, 48, .inl (i3_shown vX3))), ((aX6 0), .inr (6, [.ref (aX6 1), .ref (aX6 2)])), ((aX6 1), .inl (cZ, 12, .inl (i6_open vX6))), ((aX6 2), .inl (cI, 12, .inl (i6_foundClearAt vX6))), ((aX2 0), .inr (2, [.ref (aX2 1), .ref (aX2 2), .ref (aX2 3), .int 0])), ((aX2 1), .inl (cI, 12, .inl (fun _ => 0))), ((aX2 2), .inl (cI, 12, .inl (fun _ => 0))), ((aX2 3), .inl (cI, 12, .inl (fun _ => 0)))] H := hP9
  replace hD : va_D A [(h0, .inr (9, [.int 0, .ref (aX8 0), .ref (aX1 0), .ref (aX7 0), .ref (aX3 0), .ref (aX6 0), .null, .null, .null, .null])), ((aX8 0), .inr (8, [.ref (aX8 1), .ref (aX8 2), .ref (aX8 3), .int 0, .int 0, .int 0, .int 0])), ((aX8 1), .inl (cI, 48, .inl (fun _ => 0))), ((aX8 2), .inl (cZ, 48, .inl (fun _ => 0))), ((aX8 3), .inl (cZ, 12, .inl (fun _ => 0))), ((aX1 0), .inr (1, [.ref (aX1 1), .ref (aX1 2)])), ((aX1 1), .inl (cI, 12, .inl (fun _ => 0))), ((aX1 2), .inl (cI, 12, .inl (fun _ => 0))), ((aX7 0), .inr (7, [.ref (aX7 1), .ref (aX7 2), .ref (aX7 3), .int (i7_weather vX7)])), ((aX7 1), .inl (cI, 12, .inl (i7_limits vX7))), ((aX7 2), .inl (cI, 12, .inl (i7_shown vX7))), ((aX7 3), .inl (cI, 12, .inl (i7_loweredAt vX7))), ((aX3 0), .inr (3, [.ref (aX3 1), .ref (aX3 2), .ref (aX3 3)])), ((aX3 1), .inl (cI, 48, .inl (i3_orders vX3))), ((aX3 2), .inl (cI, 48, .inl (i3_told vX3))), ((aX3 3), .inl (cI, 48, .inl (i3_shown vX3))), ((aX6 0), .inr (6, [.ref (aX6 1), .ref (aX6 2)])), ((aX6 1), .inl (cZ, 12, .inl (i6_open vX6))), ((aX6 2), .inl (cI, 12, .inl (i6_foundClearAt vX6))), ((aX2 0), .inr (2, [.ref (aX2 1), .ref (aX2 2), .ref (aX2 3), .int 0])), ((aX2 1), .inl (cI, 12, .inl (fun _ => 0))), ((aX2 2), .inl (cI, 12, .inl (fun _ => 0))), ((aX2 3), .inl (cI, 12, .inl (fun _ => 0)))] := hD9
  refine va_putF (D := D) (ci := 9) (v := .ref (aX2 0)) (ty := (.object "RedcrossGantry$Incidents")) (C := RX9) (T := TX9) (N := 10) hx hb hts iX9 tyX9 tyX9_ok nmX9 hown hK hP hD hS 0 rfl rfl 6 (by decide) hf51 (fun _ h9 => h9) rfl hin rfl (by decide +kernel) rfl rfl (Nat.le_of_ble_eq_true rfl) dX9_init_72 (fun H locs hP hD hS => ?_)
  replace hP : va_P D vwCl [(h0, .inr (9, [.int 0, .ref (aX8 0), .ref (aX1 0), .ref (aX7 0), .ref (aX3 0), .ref (aX6 0), .ref (aX2 0), .null, .null, .null])), ((aX8 0), .inr (8, [.ref (aX8 1), .ref (aX8 2), .ref (aX8 3), .int 0, .int 0, .int 0, .int 0])), ((aX8 1), .inl (cI, 48, .inl (fun _ => 0))), ((aX8 2), .inl (cZ, 48, .inl (fun _ => 0))), ((aX8 3), .inl (cZ, 12, .inl (fun _ => 0))), ((aX1 0), .inr (1, [.ref (aX1 1), .ref (aX1 2)])), ((aX1 1), .inl (cI, 12, .inl (fun _ => 0))), ((aX1 2), .inl (cI, 12, .inl (fun _ => 0))), ((aX7 0), .inr (7, [.ref (aX7 1), .ref (aX7 2), .ref (aX7 3), .int (i7_weather vX7)])), ((aX7 1), .inl (cI, 12, .inl (i7_limits vX7))), ((aX7 2), .inl (cI, 12, .inl (i7_shown vX7))), ((aX7 3), .inl (cI, 12, .inl (i7_loweredAt vX7))), ((aX3 0), .inr (3, [.ref (aX3 1), .ref (aX3 2), .ref (aX3 3)])), ((aX3 1), .inl (cI, 48, .inl (i3_orders vX3))), ((aX3 2), .inl (cI, 48, .inl (i3_told vX3))), ((aX3 3), .inl (cI, 48, .inl (i3_shown vX3))), ((aX6 0), .inr (6, [.ref (aX6 1), .ref (aX6 2)])), ((aX6 1), .inl (cZ, 12, .inl (i6_open vX6))), ((aX6 2), .inl (cI, 12, .inl (i6_foundClearAt vX6))), ((aX2 0), .inr (2, [.ref (aX2 1), .ref (aX2 2), .ref (aX2 3), .int 0])), ((aX2 1), .inl (cI, 12, .inl (fun _ => 0))), ((aX2 2), .inl (cI, 12, .inl (fun _ => 0))), ((aX2 3), .inl (cI, 12, .inl (fun _ => 0)))] H := hP
  replace hD : va_D A [(h0, .inr (9, [.int 0, .ref (aX8 0), .ref (aX1 0), .ref (aX7 0), .ref (aX3 0), .ref (aX6 0), .ref (aX2 0), .null, .null, .null])), ((aX8 0), .inr (8, [.ref (aX8 1), .ref (aX8 2), .ref (aX8 3), .int 0, .int 0, .int 0, .int 0])), ((aX8 1), .inl (cI, 48, .inl (fun _ => 0))), ((aX8 2), .inl (cZ, 48, .inl (fun _ => 0))), ((aX8 3), .inl (cZ, 12, .inl (fun _ => 0))), ((aX1 0), .inr (1, [.ref (aX1 1), .ref (aX1 2)])), ((aX1 1), .inl (cI, 12, .inl (fun _ => 0))), ((aX1 2), .inl (cI, 12, .inl (fun _ => 0))), ((aX7 0), .inr (7, [.ref (aX7 1), .ref (aX7 2), .ref (aX7 3), .int (i7_weather vX7)])), ((aX7 1), .inl (cI, 12, .inl (i7_limits vX7))), ((aX7 2), .inl (cI, 12, .inl (i7_shown vX7))), ((aX7 3), .inl (cI, 12, .inl (i7_loweredAt vX7))), ((aX3 0), .inr (3, [.ref (aX3 1), .ref (aX3 2), .ref (aX3 3)])), ((aX3 1), .inl (cI, 48, .inl (i3_orders vX3))), ((aX3 2), .inl (cI, 48, .inl (i3_told vX3))), ((aX3 3), .inl (cI, 48, .inl (i3_shown vX3))), ((aX6 0), .inr (6, [.ref (aX6 1), .ref (aX6 2)])), ((aX6 1), .inl (cZ, 12, .inl (i6_open vX6))), ((aX6 2), .inl (cI, 12, .inl (i6_foundClearAt vX6))), ((aX2 0), .inr (2, [.ref (aX2 1), .ref (aX2 2), .ref (aX2 3), .int 0])), ((aX2 1), .inl (cI, 12, .inl (fun _ => 0))), ((aX2 2), .inl (cI, 12, .inl (fun _ => 0))), ((aX2 3), .inl (cI, 12, .inl (fun _ => 0)))] := hD
  refine lv_aload_n hx hb dX9_init_75 rfl (lv_at hl 0 rfl) ?_
  refine va_new (ci := 4) (fs := [.null, .null, .null]) (C := RX4) (T := TX4) (N := 3) hx hb hts iX4 tyX4 tyX4_ok hown (hts _ mw_172) (hts _ mw_173) (hts _ mw_26) hK hP hD hS hA rfl (fun j hj => by rcases (show j = 0 ∨ j = 1 ∨ j = 2 by omega) with rfl | rfl | rfl <;> rfl) (Nat.le_of_ble_eq_true rfl) (Nat.le_of_ble_eq_true rfl) dX9_init_76 (fun q76 H hP hD hS => ?_)
  refine W.widen (k := 23) (n := 397) (Nat.le_of_ble_eq_true rfl) (Nat.le_of_ble_eq_true rfl) ?_
  replace hP : va_P D vwCl [(h0, .inr (9, [.int 0, .ref (aX8 0), .ref (aX1 0), .ref (aX7 0), .ref (aX3 0), .ref (aX6 0), .ref (aX2 0), .null, .null, .null])), ((aX8 0), .inr (8, [.ref (aX8 1), .ref (aX8 2), .ref (aX8 3), .int 0, .int 0, .int 0, .int 0])), ((aX8 1), .inl (cI, 48, .inl (fun _ => 0))), ((aX8 2), .inl (cZ, 48, .inl (fun _ => 0))), ((aX8 3), .inl (cZ, 12, .inl (fun _ => 0))), ((aX1 0), .inr (1, [.ref (aX1 1), .ref (aX1 2)])), ((aX1 1), .inl (cI, 12, .inl (fun _ => 0))), ((aX1 2), .inl (cI, 12, .inl (fun _ => 0))), ((aX7 0), .inr (7, [.ref (aX7 1), .ref (aX7 2), .ref (aX7 3), .int (i7_weather vX7)])), ((aX7 1), .inl (cI, 12, .inl (i7_limits vX7))), ((aX7 2), .inl (cI, 12, .inl (i7_shown vX7))), ((aX7 3), .inl (cI, 12, .inl (i7_loweredAt vX7))), ((aX3 0), .inr (3, [.ref (aX3 1), .ref (aX3 2), .ref (aX3 3)])), ((aX3 1), .inl (cI, 48, .inl (i3_orders vX3))), ((aX3 2), .inl (cI, 48, .inl (i3_told vX3))), ((aX3 3), .inl (cI, 48, .inl (i3_shown vX3))), ((aX6 0), .inr (6, [.ref (aX6 1), .ref (aX6 2)])), ((aX6 1), .inl (cZ, 12, .inl (i6_open vX6))), ((aX6 2), .inl (cI, 12, .inl (i6_foundClearAt vX6))), ((aX2 0), .inr (2, [.ref (aX2 1), .ref (aX2 2), .ref (aX2 3), .int 0])), ((aX2 1), .inl (cI, 12, .inl (fun _ => 0))), ((aX2 2), .inl (cI, 12, .inl (fun _ => 0))), ((aX2 3), .inl (cI, 12, .inl (fun _ => 0))), (q76, .inr (4, [.null, .null, .null]))] H := hP
  replace hD : va_D A [(h0, .inr (9, [.int 0, .ref (aX8 0), .ref (aX1 0), .ref (aX7 0), .ref (aX3 0), .ref (aX6 0), .ref (aX2 0), .null, .null, .null])), ((aX8 0), .inr (8, [.ref (aX8 1), .ref (aX8 2), .ref (aX8 3), .int 0, .int 0, .int 0, .int 0])), ((aX8 1), .inl (cI, 48, .inl (fun _ => 0))), ((aX8 2), .inl (cZ, 48, .inl (fun _ => 0))), ((aX8 3), .inl (cZ, 12, .inl (fun _ => 0))), ((aX1 0), .inr (1, [.ref (aX1 1), .ref (aX1 2)])), ((aX1 1), .inl (cI, 12, .inl (fun _ => 0))), ((aX1 2), .inl (cI, 12, .inl (fun _ => 0))), ((aX7 0), .inr (7, [.ref (aX7 1), .ref (aX7 2), .ref (aX7 3), .int (i7_weather vX7)])), ((aX7 1), .inl (cI, 12, .inl (i7_limits vX7))), ((aX7 2), .inl (cI, 12, .inl (i7_shown vX7))), ((aX7 3), .inl (cI, 12, .inl (i7_loweredAt vX7))), ((aX3 0), .inr (3, [.ref (aX3 1), .ref (aX3 2), .ref (aX3 3)])), ((aX3 1), .inl (cI, 48, .inl (i3_orders vX3))), ((aX3 2), .inl (cI, 48, .inl (i3_told vX3))), ((aX3 3), .inl (cI, 48, .inl (i3_shown vX3))), ((aX6 0), .inr (6, [.ref (aX6 1), .ref (aX6 2)])), ((aX6 1), .inl (cZ, 12, .inl (i6_open vX6))), ((aX6 2), .inl (cI, 12, .inl (i6_foundClearAt vX6))), ((aX2 0), .inr (2, [.ref (aX2 1), .ref (aX2 2), .ref (aX2 3), .int 0])), ((aX2 1), .inl (cI, 12, .inl (fun _ => 0))), ((aX2 2), .inl (cI, 12, .inl (fun _ => 0))), ((aX2 3), .inl (cI, 12, .inl (fun _ => 0))), (q76, .inr (4, [.null, .null, .null]))] := hD
  refine lv_dup hx hb dX9_init_79 rfl ?_
  refine cc_cIN (rest := [.ref q76, .ref h0]) (wr := [(h0, .inr (9, [.int 0, .ref (aX8 0), .ref (aX1 0), .ref (aX7 0), .ref (aX3 0), .ref (aX6 0), .ref (aX2 0), .null, .null, .null])), ((aX8 0), .inr (8, [.ref (aX8 1), .ref (aX8 2), .ref (aX8 3), .int 0, .int 0, .int 0, .int 0])), ((aX8 1), .inl (cI, 48, .inl (fun _ => 0))), ((aX8 2), .inl (cZ, 48, .inl (fun _ => 0))), ((aX8 3), .inl (cZ, 12, .inl (fun _ => 0))), ((aX1 0), .inr (1, [.ref (aX1 1), .ref (aX1 2)])), ((aX1 1), .inl (cI, 12, .inl (fun _ => 0))), ((aX1 2), .inl (cI, 12, .inl (fun _ => 0))), ((aX7 0), .inr (7, [.ref (aX7 1), .ref (aX7 2), .ref (aX7 3), .int (i7_weather vX7)])), ((aX7 1), .inl (cI, 12, .inl (i7_limits vX7))), ((aX7 2), .inl (cI, 12, .inl (i7_shown vX7))), ((aX7 3), .inl (cI, 12, .inl (i7_loweredAt vX7))), ((aX3 0), .inr (3, [.ref (aX3 1), .ref (aX3 2), .ref (aX3 3)])), ((aX3 1), .inl (cI, 48, .inl (i3_orders vX3))), ((aX3 2), .inl (cI, 48, .inl (i3_told vX3))), ((aX3 3), .inl (cI, 48, .inl (i3_shown vX3))), ((aX6 0), .inr (6, [.ref (aX6 1), .ref (aX6 2)])), ((aX6 1), .inl (cZ, 12, .inl (i6_open vX6))), ((aX6 2), .inl (cI, 12, .inl (i6_foundClearAt vX6))), ((aX2 0), .inr (2, [.ref (aX2 1), .ref (aX2 2), .ref (aX2 3), .int 0])), ((aX2 1), .inl (cI, 12, .inl (fun _ => 0))), ((aX2 2), .inl (cI, 12, .inl (fun _ => 0))), ((aX2 3), .inl (cI, 12, .inl (fun _ => 0)))]) ⟨hx, hb, hml, hown, hts⟩ (kc_X4 l D cI cZ q76) ⟨va_cnB 0 hts (gwM mw_176) rfl rfl rfl (hZ.1 ("RedcrossGantry", 57, yX4_init) (by decide +kernel)) (hts _ mw_26) (by decide +kernel) ⟨Nat.le_of_ble_eq_true rfl, Nat.le_of_ble_eq_true rfl⟩, rfl, hts _ mw_175⟩ hK hP hD hS hA hZ [23] [0, 1, 2, 3, 4, 5, 6, 7, 8, 9, 10, 11, 12, 13, 14, 15, 16, 17, 18, 19, 20, 21, 22] rfl rfl (by decide) rfl (by decide) (by decide) hl.1 rfl (Nat.le_of_ble_eq_true rfl) dX9_init_80 ⟨Nat.le_of_ble_eq_true rfl, Nat.le_of_ble_eq_true rfl⟩ (fun aX4 H locs eaX4 hP9 hD9 hS => ?_)
  subst eaX4
  refine W.widen (k := 26) (n := 406) (Nat.le_of_ble_eq_true rfl) (Nat.le_of_ble_eq_true rfl) ?_
  replace hP : va_P D vwCl [(h0, .inr (9, [.int 0, .ref (aX8 0), .ref (aX1 0), .ref (aX7 0), .ref (aX3 0), .ref (aX6 0), .ref (aX2 0), .null, .null, .null])), ((aX8 0), .inr (8, [.ref (aX8 1), .ref (aX8 2), .ref (aX8 3), .int 0, .int 0, .int 0, .int 0])), ((aX8 1), .inl (cI, 48, .inl (fun _ => 0))), ((aX8 2), .inl (cZ, 48, .inl (fun _ => 0))), ((aX8 3), .inl (cZ, 12, .inl (fun _ => 0))), ((aX1 0), .inr (1, [.ref (aX1 1), .ref (aX1 2)])), ((aX1 1), .inl (cI, 12, .inl (fun _ => 0))), ((aX1 2), .inl (cI, 12, .inl (fun _ => 0))), ((aX7 0), .inr (7, [.ref (aX7 1), .ref (aX7 2), .ref (aX7 3), .int (i7_weather vX7)])), ((aX7 1), .inl (cI, 12, .inl (i7_limits vX7))), ((aX7 2), .inl (cI, 12, .inl (i7_shown vX7))), ((aX7 3), .inl (cI, 12, .inl (i7_loweredAt vX7))), ((aX3 0), .inr (3, [.ref (aX3 1), .ref (aX3 2), .ref (aX3 3)])), ((aX3 1), .inl (cI, 48, .inl (i3_orders vX3))), ((aX3 2), .inl (cI, 48, .inl (i3_told vX3))), ((aX3 3), .inl (cI, 48, .inl (i3_shown vX3))), ((aX6 0), .inr (6, [.ref (aX6 1), .ref (aX6 2)])), ((aX6 1), .inl (cZ, 12, .inl (i6_open vX6))), ((aX6 2), .inl (cI, 12, .inl (i6_foundClearAt vX6))), ((aX2 0), .inr (2, [.ref (aX2 1), .ref (aX2 2), .ref (aX2 3), .int 0])), ((aX2 1), .inl (cI, 12, .inl (fun _ => 0))), ((aX2 2), .inl (cI, 12, .inl (fun _ => 0))), ((aX2 3), .inl (cI, 12, .inl (fun _ => 0))), ((aX4 0), .inr (4, [.ref (aX4 1), .ref (aX4 2), .ref (aX4 3)])), ((aX4 1), .inl (cI, 3, .inl (fun _ => 0))), ((aX4 2), .inl (cI, 3, .inl (upd (upd (upd (fun _ => 0) (0 : Int32).toNatClampNeg (-1)) (1 : Int32).toNatClampNeg (-1)) (2 : Int32).toNatClampNeg (-1)))), ((aX4 3), .inl (cI, 3, .inl (fun _ => 0)))] H := hP9
  replace hD : va_D A [(h0, .inr (9, [.int 0, .ref (aX8 0), .ref (aX1 0), .ref (aX7 0), .ref (aX3 0), .ref (aX6 0), .ref (aX2 0), .null, .null, .null])), ((aX8 0), .inr (8, [.ref (aX8 1), .ref (aX8 2), .ref (aX8 3), .int 0, .int 0, .int 0, .int 0])), ((aX8 1), .inl (cI, 48, .inl (fun _ => 0))), ((aX8 2), .inl (cZ, 48, .inl (fun _ => 0))), ((aX8 3), .inl (cZ, 12, .inl (fun _ => 0))), ((aX1 0), .inr (1, [.ref (aX1 1), .ref (aX1 2)])), ((aX1 1), .inl (cI, 12, .inl (fun _ => 0))), ((aX1 2), .inl (cI, 12, .inl (fun _ => 0))), ((aX7 0), .inr (7, [.ref (aX7 1), .ref (aX7 2), .ref (aX7 3), .int (i7_weather vX7)])), ((aX7 1), .inl (cI, 12, .inl (i7_limits vX7))), ((aX7 2), .inl (cI, 12, .inl (i7_shown vX7))), ((aX7 3), .inl (cI, 12, .inl (i7_loweredAt vX7))), ((aX3 0), .inr (3, [.ref (aX3 1), .ref (aX3 2), .ref (aX3 3)])), ((aX3 1), .inl (cI, 48, .inl (i3_orders vX3))), ((aX3 2), .inl (cI, 48, .inl (i3_told vX3))), ((aX3 3), .inl (cI, 48, .inl (i3_shown vX3))), ((aX6 0), .inr (6, [.ref (aX6 1), .ref (aX6 2)])), ((aX6 1), .inl (cZ, 12, .inl (i6_open vX6))), ((aX6 2), .inl (cI, 12, .inl (i6_foundClearAt vX6))), ((aX2 0), .inr (2, [.ref (aX2 1), .ref (aX2 2), .ref (aX2 3), .int 0])), ((aX2 1), .inl (cI, 12, .inl (fun _ => 0))), ((aX2 2), .inl (cI, 12, .inl (fun _ => 0))), ((aX2 3), .inl (cI, 12, .inl (fun _ => 0))), ((aX4 0), .inr (4, [.ref (aX4 1), .ref (aX4 2), .ref (aX4 3)])), ((aX4 1), .inl (cI, 3, .inl (fun _ => 0))), ((aX4 2), .inl (cI, 3, .inl (upd (upd (upd (fun _ => 0) (0 : Int32).toNatClampNeg (-1)) (1 : Int32).toNatClampNeg (-1)) (2 : Int32).toNatClampNeg (-1)))), ((aX4 3), .inl (cI, 3, .inl (fun _ => 0)))] := hD9
  refine va_putF (D := D) (ci := 9) (v := .ref (aX4 0)) (ty := (.object "RedcrossGantry$Patrols")) (C := RX9) (T := TX9) (N := 10) hx hb hts iX9 tyX9 tyX9_ok nmX9 hown hK hP hD hS 0 rfl rfl 7 (by decide) hf58 (fun _ h9 => h9) rfl hin rfl (by decide +kernel) rfl rfl (Nat.le_of_ble_eq_true rfl) dX9_init_83 (fun H locs hP hD hS => ?_)
  replace hP : va_P D vwCl [(h0, .inr (9, [.int 0, .ref (aX8 0), .ref (aX1 0), .ref (aX7 0), .ref (aX3 0), .ref (aX6 0), .ref (aX2 0), .ref (aX4 0), .null, .null])), ((aX8 0), .inr (8, [.ref (aX8 1), .ref (aX8 2), .ref (aX8 3), .int 0, .int 0, .int 0, .int 0])), ((aX8 1), .inl (cI, 48, .inl (fun _ => 0))), ((aX8 2), .inl (cZ, 48, .inl (fun _ => 0))), ((aX8 3), .inl (cZ, 12, .inl (fun _ => 0))), ((aX1 0), .inr (1, [.ref (aX1 1), .ref (aX1 2)])), ((aX1 1), .inl (cI, 12, .inl (fun _ => 0))), ((aX1 2), .inl (cI, 12, .inl (fun _ => 0))), ((aX7 0), .inr (7, [.ref (aX7 1), .ref (aX7 2), .ref (aX7 3), .int (i7_weather vX7)])), ((aX7 1), .inl (cI, 12, .inl (i7_limits vX7))), ((aX7 2), .inl (cI, 12, .inl (i7_shown vX7))), ((aX7 3), .inl (cI, 12, .inl (i7_loweredAt vX7))), ((aX3 0), .inr (3, [.ref (aX3 1), .ref (aX3 2), .ref (aX3 3)])), ((aX3 1), .inl (cI, 48, .inl (i3_orders vX3))), ((aX3 2), .inl (cI, 48, .inl (i3_told vX3))), ((aX3 3), .inl (cI, 48, .inl (i3_shown vX3))), ((aX6 0), .inr (6, [.ref (aX6 1), .ref (aX6 2)])), ((aX6 1), .inl (cZ, 12, .inl (i6_open vX6))), ((aX6 2), .inl (cI, 12, .inl (i6_foundClearAt vX6))), ((aX2 0), .inr (2, [.ref (aX2 1), .ref (aX2 2), .ref (aX2 3), .int 0])), ((aX2 1), .inl (cI, 12, .inl (fun _ => 0))), ((aX2 2), .inl (cI, 12, .inl (fun _ => 0))), ((aX2 3), .inl (cI, 12, .inl (fun _ => 0))), ((aX4 0), .inr (4, [.ref (aX4 1), .ref (aX4 2), .ref (aX4 3)])), ((aX4 1), .inl (cI, 3, .inl (fun _ => 0))), ((aX4 2), .inl (cI, 3, .inl (upd (upd (upd (fun _ => 0) (0 : Int32).toNatClampNeg (-1)) (1 : Int32).toNatClampNeg (-1)) (2 : Int32).toNatClampNeg (-1)))), ((aX4 3), .inl (cI, 3, .inl (fun _ => 0)))] H := hP
  replace hD : va_D A [(h0, .inr (9, [.int 0, .ref (aX8 0), .ref (aX1 0), .ref (aX7 0), .ref (aX3 0), .ref (aX6 0), .ref (aX2 0), .ref (aX4 0), .null, .null])), ((aX8 0), .inr (8, [.ref (aX8 1), .ref (aX8 2), .ref (aX8 3), .int 0, .int 0, .int 0, .int 0])), ((aX8 1), .inl (cI, 48, .inl (fun _ => 0))), ((aX8 2), .inl (cZ, 48, .inl (fun _ => 0))), ((aX8 3), .inl (cZ, 12, .inl (fun _ => 0))), ((aX1 0), .inr (1, [.ref (aX1 1), .ref (aX1 2)])), ((aX1 1), .inl (cI, 12, .inl (fun _ => 0))), ((aX1 2), .inl (cI, 12, .inl (fun _ => 0))), ((aX7 0), .inr (7, [.ref (aX7 1), .ref (aX7 2), .ref (aX7 3), .int (i7_weather vX7)])), ((aX7 1), .inl (cI, 12, .inl (i7_limits vX7))), ((aX7 2), .inl (cI, 12, .inl (i7_shown vX7))), ((aX7 3), .inl (cI, 12, .inl (i7_loweredAt vX7))), ((aX3 0), .inr (3, [.ref (aX3 1), .ref (aX3 2), .ref (aX3 3)])), ((aX3 1), .inl (cI, 48, .inl (i3_orders vX3))), ((aX3 2), .inl (cI, 48, .inl (i3_told vX3))), ((aX3 3), .inl (cI, 48, .inl (i3_shown vX3))), ((aX6 0), .inr (6, [.ref (aX6 1), .ref (aX6 2)])), ((aX6 1), .inl (cZ, 12, .inl (i6_open vX6))), ((aX6 2), .inl (cI, 12, .inl (i6_foundClearAt vX6))), ((aX2 0), .inr (2, [.ref (aX2 1), .ref (aX2 2), .ref (aX2 3), .int 0])), ((aX2 1), .inl (cI, 12, .inl (fun _ => 0))), ((aX2 2), .inl (cI, 12, .inl (fun _ => 0))), ((aX2 3), .inl (cI, 12, .inl (fun _ => 0))), ((aX4 0), .inr (4, [.ref (aX4 1), .ref (aX4 2), .ref (aX4 3)])), ((aX4 1), .inl (cI, 3, .inl (fun _ => 0))), ((aX4 2), .inl (cI, 3, .inl (upd (upd (upd (fun _ => 0) (0 : Int32).toNatClampNeg (-1)) (1 : Int32).toNatClampNeg (-1)) (2 : Int32).toNatClampNeg (-1)))), ((aX4 3), .inl (cI, 3, .inl (fun _ => 0)))] := hD
  refine lv_aload_n hx hb dX9_init_86 rfl (lv_at hl 0 rfl) ?_
  refine va_new (ci := 0) (fs := [.null, .null, .null, .null, .null, .int 0]) (C := RX0) (T := TX0) (N := 6) hx hb hts iX0 tyX0 tyX0_ok hown (hts _ mw_191) (hts _ mw_192) (hts _ mw_27) hK hP hD hS hA rfl (fun j hj => by rcases (show j = 0 ∨ j = 1 ∨ j = 2 ∨ j = 3 ∨ j = 4 ∨ j = 5 by omega) with rfl | rfl | rfl | rfl | rfl | rfl <;> rfl) (Nat.le_of_ble_eq_true rfl) (Nat.le_of_ble_eq_true rfl) dX9_init_87 (fun q87 H hP hD hS => ?_)
  refine W.widen (k := 27) (n := 412) (Nat.le_of_ble_eq_true rfl) (Nat.le_of_ble_eq_true rfl) ?_
  replace hP : va_P D vwCl [(h0, .inr (9, [.int 0, .ref (aX8 0), .ref (aX1 0), .ref (aX7 0), .ref (aX3 0), .ref (aX6 0), .ref (aX2 0), .ref (aX4 0), .null, .null])), ((aX8 0), .inr (8, [.ref (aX8 1), .ref (aX8 2), .ref (aX8 3), .int 0, .int 0, .int 0, .int 0])), ((aX8 1), .inl (cI, 48, .inl (fun _ => 0))), ((aX8 2), .inl (cZ, 48, .inl (fun _ => 0))), ((aX8 3), .inl (cZ, 12, .inl (fun _ => 0))), ((aX1 0), .inr (1, [.ref (aX1 1), .ref (aX1 2)])), ((aX1 1), .inl (cI, 12, .inl (fun _ => 0))), ((aX1 2), .inl (cI, 12, .inl (fun _ => 0))), ((aX7 0), .inr (7, [.ref (aX7 1), .ref (aX7 2), .ref (aX7 3), .int (i7_weather vX7)])), ((aX7 1), .inl (cI, 12, .inl (i7_limits vX7))), ((aX7 2), .inl (cI, 12, .inl (i7_shown vX7))), ((aX7 3), .inl (cI, 12, .inl (i7_loweredAt vX7))), ((aX3 0), .inr (3, [.ref (aX3 1), .ref (aX3 2), .ref (aX3 3)])), ((aX3 1), .inl (cI, 48, .inl (i3_orders vX3))), ((aX3 2), .inl (cI, 48, .inl (i3_told vX3))), ((aX3 3), .inl (cI, 48, .inl (i3_shown vX3))), ((aX6 0), .inr (6, [.ref (aX6 1), .ref (aX6 2)])), ((aX6 1), .inl (cZ, 12, .inl (i6_open vX6))), ((aX6 2), .inl (cI, 12, .inl (i6_foundClearAt vX6))), ((aX2 0), .inr (2, [.ref (aX2 1), .ref (aX2 2), .ref (aX2 3), .int 0])), ((aX2 1), .inl (cI, 12, .inl (fun _ => 0))), ((aX2 2), .inl (cI, 12, .inl (fun _ => 0))), ((aX2 3), .inl (cI, 12, .inl (fun _ => 0))), ((aX4 0), .inr (4, [.ref (aX4 1), .ref (aX4 2), .ref (aX4 3)])), ((aX4 1), .inl (cI, 3, .inl (fun _ => 0))), ((aX4 2), .inl (cI, 3, .inl (upd (upd (upd (fun _ => 0) (0 : Int32).toNatClampNeg (-1)) (1 : Int32).toNatClampNeg (-1)) (2 : Int32).toNatClampNeg (-1)))), ((aX4 3), .inl (cI, 3, .inl (fun _ => 0))), (q87, .inr (0, [.null, .null, .null, .null, .null, .int 0]))] H := hP
  replace hD : va_D A [(h0, .inr (9, [.int 0, .ref (aX8 0), .ref (aX1 0), .ref (aX7 0), .ref (aX3 0), .ref (aX6 0), .ref (aX2 0), .ref (aX4 0), .null, .null])), ((aX8 0), .inr (8, [.ref (aX8 1), .ref (aX8 2), .ref (aX8 3), .int 0, .int 0, .int 0, .int 0])), ((aX8 1), .inl (cI, 48, .inl (fun _ => 0))), ((aX8 2), .inl (cZ, 48, .inl (fun _ => 0))), ((aX8 3), .inl (cZ, 12, .inl (fun _ => 0))), ((aX1 0), .inr (1, [.ref (aX1 1), .ref (aX1 2)])), ((aX1 1), .inl (cI, 12, .inl (fun _ => 0))), ((aX1 2), .inl (cI, 12, .inl (fun _ => 0))), ((aX7 0), .inr (7, [.ref (aX7 1), .ref (aX7 2), .ref (aX7 3), .int (i7_weather vX7)])), ((aX7 1), .inl (cI, 12, .inl (i7_limits vX7))), ((aX7 2), .inl (cI, 12, .inl (i7_shown vX7))), ((aX7 3), .inl (cI, 12, .inl (i7_loweredAt vX7))), ((aX3 0), .inr (3, [.ref (aX3 1), .ref (aX3 2), .ref (aX3 3)])), ((aX3 1), .inl (cI, 48, .inl (i3_orders vX3))), ((aX3 2), .inl (cI, 48, .inl (i3_told vX3))), ((aX3 3), .inl (cI, 48, .inl (i3_shown vX3))), ((aX6 0), .inr (6, [.ref (aX6 1), .ref (aX6 2)])), ((aX6 1), .inl (cZ, 12, .inl (i6_open vX6))), ((aX6 2), .inl (cI, 12, .inl (i6_foundClearAt vX6))), ((aX2 0), .inr (2, [.ref (aX2 1), .ref (aX2 2), .ref (aX2 3), .int 0])), ((aX2 1), .inl (cI, 12, .inl (fun _ => 0))), ((aX2 2), .inl (cI, 12, .inl (fun _ => 0))), ((aX2 3), .inl (cI, 12, .inl (fun _ => 0))), ((aX4 0), .inr (4, [.ref (aX4 1), .ref (aX4 2), .ref (aX4 3)])), ((aX4 1), .inl (cI, 3, .inl (fun _ => 0))), ((aX4 2), .inl (cI, 3, .inl (upd (upd (upd (fun _ => 0) (0 : Int32).toNatClampNeg (-1)) (1 : Int32).toNatClampNeg (-1)) (2 : Int32).toNatClampNeg (-1)))), ((aX4 3), .inl (cI, 3, .inl (fun _ => 0))), (q87, .inr (0, [.null, .null, .null, .null, .null, .int 0]))] := hD
  refine lv_dup hx hb dX9_init_90 rfl ?_
  refine cc_cIN (rest := [.ref q87, .ref h0]) (wr := [(h0, .inr (9, [.int 0, .ref (aX8 0), .ref (aX1 0), .ref (aX7 0), .ref (aX3 0), .ref (aX6 0), .ref (aX2 0), .ref (aX4 0), .null, .null])), ((aX8 0), .inr (8, [.ref (aX8 1), .ref (aX8 2), .ref (aX8 3), .int 0, .int 0, .int 0, .int 0])), ((aX8 1), .inl (cI, 48, .inl (fun _ => 0))), ((aX8 2), .inl (cZ, 48, .inl (fun _ => 0))), ((aX8 3), .inl (cZ, 12, .inl (fun _ => 0))), ((aX1 0), .inr (1, [.ref (aX1 1), .ref (aX1 2)])), ((aX1 1), .inl (cI, 12, .inl (fun _ => 0))), ((aX1 2), .inl (cI, 12, .inl (fun _ => 0))), ((aX7 0), .inr (7, [.ref (aX7 1), .ref (aX7 2), .ref (aX7 3), .int (i7_weather vX7)])), ((aX7 1), .inl (cI, 12, .inl (i7_limits vX7))), ((aX7 2), .inl (cI, 12, .inl (i7_shown vX7))), ((aX7 3), .inl (cI, 12, .inl (i7_loweredAt vX7))), ((aX3 0), .inr (3, [.ref (aX3 1), .ref (aX3 2), .ref (aX3 3)])), ((aX3 1), .inl (cI, 48, .inl (i3_orders vX3))), ((aX3 2), .inl (cI, 48, .inl (i3_told vX3))), ((aX3 3), .inl (cI, 48, .inl (i3_shown vX3))), ((aX6 0), .inr (6, [.ref (aX6 1), .ref (aX6 2)])), ((aX6 1), .inl (cZ, 12, .inl (i6_open vX6))), ((aX6 2), .inl (cI, 12, .inl (i6_foundClearAt vX6))), ((aX2 0), .inr (2, [.ref (aX2 1), .ref (aX2 2), .ref (aX2 3), .int 0])), ((aX2 1), .inl (cI, 12, .inl (fun _ => 0))), ((aX2 2), .inl (cI, 12, .inl (fun _ => 0))), ((aX2 3), .inl (cI, 12, .inl (fun _ => 0))), ((aX4 0), .inr (4, [.ref (aX4 1), .ref (aX4 2), .ref (aX4 3)])), ((aX4 1), .inl (cI, 3, .inl (fun _ => 0))), ((aX4 2), .inl (cI, 3, .inl (upd (upd (upd (fun _ => 0) (0 : Int32).toNatClampNeg (-1)) (1 : Int32).toNatClampNeg (-1)) (2 : Int32).toNatClampNeg (-1)))), ((aX4 3), .inl (cI, 3, .inl (fun _ => 0)))]) ⟨hx, hb, hml, hown, hts⟩ (kc_X0 l D cI cZ q87) ⟨va_cnB 0 hts (gwM mw_195) rfl rfl rfl (hZ.1 ("RedcrossGantry", 64, yX0_init) (by decide +kernel)) (hts _ mw_27) (by decide +kernel) ⟨Nat.le_of_ble_eq_true rfl, Nat.le_of_ble_eq_true rfl⟩, rfl, hts _ mw_194⟩ hK hP hD hS hA hZ [27] [0, 1, 2, 3, 4, 5, 6, 7, 8, 9, 10, 11, 12, 13, 14, 15, 16, 17, 18, 19, 20, 21, 22, 23, 24, 25, 26] rfl rfl (by decide) rfl (by decide) (by decide) hl.1 rfl (Nat.le_of_ble_eq_true rfl) dX9_init_91 ⟨Nat.le_of_ble_eq_true rfl, Nat.le_of_ble_eq_true rfl⟩ (fun aX0 H locs eaX0 hP9 hD9 hS => ?_)
  subst eaX0
  refine W.widen (k := 32) (n := 452) (Nat.le_of_ble_eq_true rfl) (Nat.le_of_ble_eq_true rfl) ?_
  replace hP : va_P D vwCl [(h0, .inr (9, [.int 0, .ref (aX8 0), .ref (aX1 0), .ref (aX7 0), .ref (aX3 0), .ref (aX6 0), .ref (aX2 0), .ref (aX4 0), .null, .null])), ((aX8 0), .inr (8, [.ref (aX8 1), .ref (aX8 2), .ref (aX8 3), .int 0, .int 0, .int 0, .int 0])), ((aX8 1), .inl (cI, 48, .inl (fun _ => 0))), ((aX8 2), .inl (cZ, 48, .inl (fun _ => 0))), ((aX8 3), .inl (cZ, 12, .inl (fun _ => 0))), ((aX1 0), .inr (1, [.ref (aX1 1), .ref (aX1 2)])), ((aX1 1), .inl (cI, 12, .inl (fun _ => 0))), ((aX1 2), .inl (cI, 12, .inl (fun _ => 0))), ((aX7 0), .inr (7, [.ref (aX7 1), .ref (aX7 2), .ref (aX7 3), .int (i7_weather vX7)])), ((aX7 1), .inl (cI, 12, .inl (i7_limits vX7))), ((aX7 2), .inl (cI, 12, .inl (i7_shown vX7))), ((aX7 3), .inl (cI, 12, .inl (i7_loweredAt vX7))), ((aX3 0), .inr (3, [.ref (aX3 1), .ref (aX3 2), .ref (aX3 3)])), ((aX3 1), .inl (cI, 48, .inl (i3_orders vX3))), ((aX3 2), .inl (cI, 48, .inl (i3_told vX3))), ((aX3 3), .inl (cI, 48, .inl (i3_shown vX3))), ((aX6 0), .inr (6, [.ref (aX6 1), .ref (aX6 2)])), ((aX6 1), .inl (cZ, 12, .inl (i6_open vX6))), ((aX6 2), .inl (cI, 12, .inl (i6_foundClearAt vX6))), ((aX2 0), .inr (2, [.ref (aX2 1), .ref (aX2 2), .ref (aX2 3), .int 0])), ((aX2 1), .inl (cI, 12, .inl (fun _ => 0))), ((aX2 2), .inl (cI, 12, .inl (fun _ => 0))), ((aX2 3), .inl (cI, 12, .inl (fun _ => 0))), ((aX4 0), .inr (4, [.ref (aX4 1), .ref (aX4 2), .ref (aX4 3)])), ((aX4 1), .inl (cI, 3, .inl (fun _ => 0))), ((aX4 2), .inl (cI, 3, .inl (upd (upd (upd (fun _ => 0) (0 : Int32).toNatClampNeg (-1)) (1 : Int32).toNatClampNeg (-1)) (2 : Int32).toNatClampNeg (-1)))), ((aX4 3), .inl (cI, 3, .inl (fun _ => 0))), ((aX0 0), .inr (0, [.ref (aX0 1), .ref (aX0 2), .ref (aX0 3), .ref (aX0 4), .ref (aX0 5), .int 0])), ((aX0 1), .inl (cI, 8, .inl (fun _ => 0))), ((aX0 2), .inl (cI, 8, .inl (fun _ => 0))), ((aX0 3), .inl (cI, 8, .inl (fun _ => 0))), ((aX0 4), .inl (cI, 8, .inl (fun _ => 0))), ((aX0 5), .inl (cI, 8, .inl (fun _ => 0)))] H := hP9
  replace hD : va_D A [(h0, .inr (9, [.int 0, .ref (aX8 0), .ref (aX1 0), .ref (aX7 0), .ref (aX3 0), .ref (aX6 0), .ref (aX2 0), .ref (aX4 0), .null, .null])), ((aX8 0), .inr (8, [.ref (aX8 1), .ref (aX8 2), .ref (aX8 3), .int 0, .int 0, .int 0, .int 0])), ((aX8 1), .inl (cI, 48, .inl (fun _ => 0))), ((aX8 2), .inl (cZ, 48, .inl (fun _ => 0))), ((aX8 3), .inl (cZ, 12, .inl (fun _ => 0))), ((aX1 0), .inr (1, [.ref (aX1 1), .ref (aX1 2)])), ((aX1 1), .inl (cI, 12, .inl (fun _ => 0))), ((aX1 2), .inl (cI, 12, .inl (fun _ => 0))), ((aX7 0), .inr (7, [.ref (aX7 1), .ref (aX7 2), .ref (aX7 3), .int (i7_weather vX7)])), ((aX7 1), .inl (cI, 12, .inl (i7_limits vX7))), ((aX7 2), .inl (cI, 12, .inl (i7_shown vX7))), ((aX7 3), .inl (cI, 12, .inl (i7_loweredAt vX7))), ((aX3 0), .inr (3, [.ref (aX3 1), .ref (aX3 2), .ref (aX3 3)])), ((aX3 1), .inl (cI, 48, .inl (i3_orders vX3))), ((aX3 2), .inl (cI, 48, .inl (i3_told vX3))), ((aX3 3), .inl (cI, 48, .inl (i3_shown vX3))), ((aX6 0), .inr (6, [.ref (aX6 1), .ref (aX6 2)])), ((aX6 1), .inl (cZ, 12, .inl (i6_open vX6))), ((aX6 2), .inl (cI, 12, .inl (i6_foundClearAt vX6))), ((aX2 0), .inr (2, [.ref (aX2 1), .ref (aX2 2), .ref (aX2 3), .int 0])), ((aX2 1), .inl (cI, 12, .inl (fun _ => 0))), ((aX2 2), .inl (cI, 12, .inl (fun _ => 0))), ((aX2 3), .inl (cI, 12, .inl (fun _ => 0))), ((aX4 0), .inr (4, [.ref (aX4 1), .ref (aX4 2), .ref (aX4 3)])), ((aX4 1), .inl (cI, 3, .inl (fun _ => 0))), ((aX4 2), .inl (cI, 3, .inl (upd (upd (upd (fun _ => 0) (0 : Int32).toNatClampNeg (-1)) (1 : Int32).toNatClampNeg (-1)) (2 : Int32).toNatClampNeg (-1)))), ((aX4 3), .inl (cI, 3, .inl (fun _ => 0))), ((aX0 0), .inr (0, [.ref (aX0 1), .ref (aX0 2), .ref (aX0 3), .ref (aX0 4), .ref (aX0 5), .int 0])), ((aX0 1), .inl (cI, 8, .inl (fun _ => 0))), ((aX0 2), .inl (cI, 8, .inl (fun _ => 0))), ((aX0 3), .inl (cI, 8, .inl (fun _ => 0))), ((aX0 4), .inl (cI, 8, .inl (fun _ => 0))), ((aX0 5), .inl (cI, 8, .inl (fun _ => 0)))] := hD9
  refine va_putF (D := D) (ci := 9) (v := .ref (aX0 0)) (ty := (.object "RedcrossGantry$Bookings")) (C := RX9) (T := TX9) (N := 10) hx hb hts iX9 tyX9 tyX9_ok nmX9 hown hK hP hD hS 0 rfl rfl 8 (by decide) hf65 (fun _ h9 => h9) rfl hin rfl (by decide +kernel) rfl rfl (Nat.le_of_ble_eq_true rfl) dX9_init_94 (fun H locs hP hD hS => ?_)
  replace hP : va_P D vwCl [(h0, .inr (9, [.int 0, .ref (aX8 0), .ref (aX1 0), .ref (aX7 0), .ref (aX3 0), .ref (aX6 0), .ref (aX2 0), .ref (aX4 0), .ref (aX0 0), .null])), ((aX8 0), .inr (8, [.ref (aX8 1), .ref (aX8 2), .ref (aX8 3), .int 0, .int 0, .int 0, .int 0])), ((aX8 1), .inl (cI, 48, .inl (fun _ => 0))), ((aX8 2), .inl (cZ, 48, .inl (fun _ => 0))), ((aX8 3), .inl (cZ, 12, .inl (fun _ => 0))), ((aX1 0), .inr (1, [.ref (aX1 1), .ref (aX1 2)])), ((aX1 1), .inl (cI, 12, .inl (fun _ => 0))), ((aX1 2), .inl (cI, 12, .inl (fun _ => 0))), ((aX7 0), .inr (7, [.ref (aX7 1), .ref (aX7 2), .ref (aX7 3), .int (i7_weather vX7)])), ((aX7 1), .inl (cI, 12, .inl (i7_limits vX7))), ((aX7 2), .inl (cI, 12, .inl (i7_shown vX7))), ((aX7 3), .inl (cI, 12, .inl (i7_loweredAt vX7))), ((aX3 0), .inr (3, [.ref (aX3 1), .ref (aX3 2), .ref (aX3 3)])), ((aX3 1), .inl (cI, 48, .inl (i3_orders vX3))), ((aX3 2), .inl (cI, 48, .inl (i3_told vX3))), ((aX3 3), .inl (cI, 48, .inl (i3_shown vX3))), ((aX6 0), .inr (6, [.ref (aX6 1), .ref (aX6 2)])), ((aX6 1), .inl (cZ, 12, .inl (i6_open vX6))), ((aX6 2), .inl (cI, 12, .inl (i6_foundClearAt vX6))), ((aX2 0), .inr (2, [.ref (aX2 1), .ref (aX2 2), .ref (aX2 3), .int 0])), ((aX2 1), .inl (cI, 12, .inl (fun _ => 0))), ((aX2 2), .inl (cI, 12, .inl (fun _ => 0))), ((aX2 3), .inl (cI, 12, .inl (fun _ => 0))), ((aX4 0), .inr (4, [.ref (aX4 1), .ref (aX4 2), .ref (aX4 3)])), ((aX4 1), .inl (cI, 3, .inl (fun _ => 0))), ((aX4 2), .inl (cI, 3, .inl (upd (upd (upd (fun _ => 0) (0 : Int32).toNatClampNeg (-1)) (1 : Int32).toNatClampNeg (-1)) (2 : Int32).toNatClampNeg (-1)))), ((aX4 3), .inl (cI, 3, .inl (fun _ => 0))), ((aX0 0), .inr (0, [.ref (aX0 1), .ref (aX0 2), .ref (aX0 3), .ref (aX0 4), .ref (aX0 5), .int 0])), ((aX0 1), .inl (cI, 8, .inl (fun _ => 0))), ((aX0 2), .inl (cI, 8, .inl (fun _ => 0))), ((aX0 3), .inl (cI, 8, .inl (fun _ => 0))), ((aX0 4), .inl (cI, 8, .inl (fun _ => 0))), ((aX0 5), .inl (cI, 8, .inl (fun _ => 0)))] H := hP
  replace hD : va_D A [(h0, .inr (9, [.int 0, .ref (aX8 0), .ref (aX1 0), .ref (aX7 0), .ref (aX3 0), .ref (aX6 0), .ref (aX2 0), .ref (aX4 0), .ref (aX0 0), .null])), ((aX8 0), .inr (8, [.ref (aX8 1), .ref (aX8 2), .ref (aX8 3), .int 0, .int 0, .int 0, .int 0])), ((aX8 1), .inl (cI, 48, .inl (fun _ => 0))), ((aX8 2), .inl (cZ, 48, .inl (fun _ => 0))), ((aX8 3), .inl (cZ, 12, .inl (fun _ => 0))), ((aX1 0), .inr (1, [.ref (aX1 1), .ref (aX1 2)])), ((aX1 1), .inl (cI, 12, .inl (fun _ => 0))), ((aX1 2), .inl (cI, 12, .inl (fun _ => 0))), ((aX7 0), .inr (7, [.ref (aX7 1), .ref (aX7 2), .ref (aX7 3), .int (i7_weather vX7)])), ((aX7 1), .inl (cI, 12, .inl (i7_limits vX7))), ((aX7 2), .inl (cI, 12, .inl (i7_shown vX7))), ((aX7 3), .inl (cI, 12, .inl (i7_loweredAt vX7))), ((aX3 0), .inr (3, [.ref (aX3 1), .ref (aX3 2), .ref (aX3 3)])), ((aX3 1), .inl (cI, 48, .inl (i3_orders vX3))), ((aX3 2), .inl (cI, 48, .inl (i3_told vX3))), ((aX3 3), .inl (cI, 48, .inl (i3_shown vX3))), ((aX6 0), .inr (6, [.ref (aX6 1), .ref (aX6 2)])), ((aX6 1), .inl (cZ, 12, .inl (i6_open vX6))), ((aX6 2), .inl (cI, 12, .inl (i6_foundClearAt vX6))), ((aX2 0), .inr (2, [.ref (aX2 1), .ref (aX2 2), .ref (aX2 3), .int 0])), ((aX2 1), .inl (cI, 12, .inl (fun _ => 0))), ((aX2 2), .inl (cI, 12, .inl (fun _ => 0))), ((aX2 3), .inl (cI, 12, .inl (fun _ => 0))), ((aX4 0), .inr (4, [.ref (aX4 1), .ref (aX4 2), .ref (aX4 3)])), ((aX4 1), .inl (cI, 3, .inl (fun _ => 0))), ((aX4 2), .inl (cI, 3, .inl (upd (upd (upd (fun _ => 0) (0 : Int32).toNatClampNeg (-1)) (1 : Int32).toNatClampNeg (-1)) (2 : Int32).toNatClampNeg (-1)))), ((aX4 3), .inl (cI, 3, .inl (fun _ => 0))), ((aX0 0), .inr (0, [.ref (aX0 1), .ref (aX0 2), .ref (aX0 3), .ref (aX0 4), .ref (aX0 5), .int 0])), ((aX0 1), .inl (cI, 8, .inl (fun _ => 0))), ((aX0 2), .inl (cI, 8, .inl (fun _ => 0))), ((aX0 3), .inl (cI, 8, .inl (fun _ => 0))), ((aX0 4), .inl (cI, 8, .inl (fun _ => 0))), ((aX0 5), .inl (cI, 8, .inl (fun _ => 0)))] := hD
  refine lv_aload_n hx hb dX9_init_97 rfl (lv_at hl 0 rfl) ?_
  refine va_new (ci := 5) (fs := [.null]) (C := RX5) (T := TX5) (N := 1) hx hb hts iX5 tyX5 tyX5_ok hown (hts _ mw_217) (hts _ mw_218) (hts _ mw_28) hK hP hD hS hA rfl (fun j hj => by rcases (show j = 0 by omega) with rfl <;> rfl) (Nat.le_of_ble_eq_true rfl) (Nat.le_of_ble_eq_true rfl) dX9_init_98 (fun q98 H hP hD hS => ?_)
  refine W.widen (k := 33) (n := 453) (Nat.le_of_ble_eq_true rfl) (Nat.le_of_ble_eq_true rfl) ?_
  replace hP : va_P D vwCl [(h0, .inr (9, [.int 0, .ref (aX8 0), .ref (aX1 0), .ref (aX7 0), .ref (aX3 0), .ref (aX6 0), .ref (aX2 0), .ref (aX4 0), .ref (aX0 0), .null])), ((aX8 0), .inr (8, [.ref (aX8 1), .ref (aX8 2), .ref (aX8 3), .int 0, .int 0, .int 0, .int 0])), ((aX8 1), .inl (cI, 48, .inl (fun _ => 0))), ((aX8 2), .inl (cZ, 48, .inl (fun _ => 0))), ((aX8 3), .inl (cZ, 12, .inl (fun _ => 0))), ((aX1 0), .inr (1, [.ref (aX1 1), .ref (aX1 2)])), ((aX1 1), .inl (cI, 12, .inl (fun _ => 0))), ((aX1 2), .inl (cI, 12, .inl (fun _ => 0))), ((aX7 0), .inr (7, [.ref (aX7 1), .ref (aX7 2), .ref (aX7 3), .int (i7_weather vX7)])), ((aX7 1), .inl (cI, 12, .inl (i7_limits vX7))), ((aX7 2), .inl (cI, 12, .inl (i7_shown vX7))), ((aX7 3), .inl (cI, 12, .inl (i7_loweredAt vX7))), ((aX3 0), .inr (3, [.ref (aX3 1), .ref (aX3 2), .ref (aX3 3)])), ((aX3 1), .inl (cI, 48, .inl (i3_orders vX3))), ((aX3 2), .inl (cI, 48, .inl (i3_told vX3))), ((aX3 3), .inl (cI, 48, .inl (i3_shown vX3))), ((aX6 0), .inr (6, [.ref (aX6 1), .ref (aX6 2)])), ((aX6 1), .inl (cZ, 12, .inl (i6_open vX6))), ((aX6 2), .inl (cI, 12, .inl (i6_foundClearAt vX6))), ((aX2 0), .inr (2, [.ref (aX2 1), .ref (aX2 2), .ref (aX2 3), .int 0])), ((aX2 1), .inl (cI, 12, .inl (fun _ => 0))), ((aX2 2), .inl (cI, 12, .inl (fun _ => 0))), ((aX2 3), .inl (cI, 12, .inl (fun _ => 0))), ((aX4 0), .inr (4, [.ref (aX4 1), .ref (aX4 2), .ref (aX4 3)])), ((aX4 1), .inl (cI, 3, .inl (fun _ => 0))), ((aX4 2), .inl (cI, 3, .inl (upd (upd (upd (fun _ => 0) (0 : Int32).toNatClampNeg (-1)) (1 : Int32).toNatClampNeg (-1)) (2 : Int32).toNatClampNeg (-1)))), ((aX4 3), .inl (cI, 3, .inl (fun _ => 0))), ((aX0 0), .inr (0, [.ref (aX0 1), .ref (aX0 2), .ref (aX0 3), .ref (aX0 4), .ref (aX0 5), .int 0])), ((aX0 1), .inl (cI, 8, .inl (fun _ => 0))), ((aX0 2), .inl (cI, 8, .inl (fun _ => 0))), ((aX0 3), .inl (cI, 8, .inl (fun _ => 0))), ((aX0 4), .inl (cI, 8, .inl (fun _ => 0))), ((aX0 5), .inl (cI, 8, .inl (fun _ => 0))), (q98, .inr (5, [.null]))] H := hP
  replace hD : va_D A [(h0, .inr (9, [.int 0, .ref (aX8 0), .ref (aX1 0), .ref (aX7 0), .ref (aX3 0), .ref (aX6 0), .ref (aX2 0), .ref (aX4 0), .ref (aX0 0), .null])), ((aX8 0), .inr (8, [.ref (aX8 1), .ref (aX8 2), .ref (aX8 3), .int 0, .int 0, .int 0, .int 0])), ((aX8 1), .inl (cI, 48, .inl (fun _ => 0))), ((aX8 2), .inl (cZ, 48, .inl (fun _ => 0))), ((aX8 3), .inl (cZ, 12, .inl (fun _ => 0))), ((aX1 0), .inr (1, [.ref (aX1 1), .ref (aX1 2)])), ((aX1 1), .inl (cI, 12, .inl (fun _ => 0))), ((aX1 2), .inl (cI, 12, .inl (fun _ => 0))), ((aX7 0), .inr (7, [.ref (aX7 1), .ref (aX7 2), .ref (aX7 3), .int (i7_weather vX7)])), ((aX7 1), .inl (cI, 12, .inl (i7_limits vX7))), ((aX7 2), .inl (cI, 12, .inl (i7_shown vX7))), ((aX7 3), .inl (cI, 12, .inl (i7_loweredAt vX7))), ((aX3 0), .inr (3, [.ref (aX3 1), .ref (aX3 2), .ref (aX3 3)])), ((aX3 1), .inl (cI, 48, .inl (i3_orders vX3))), ((aX3 2), .inl (cI, 48, .inl (i3_told vX3))), ((aX3 3), .inl (cI, 48, .inl (i3_shown vX3))), ((aX6 0), .inr (6, [.ref (aX6 1), .ref (aX6 2)])), ((aX6 1), .inl (cZ, 12, .inl (i6_open vX6))), ((aX6 2), .inl (cI, 12, .inl (i6_foundClearAt vX6))), ((aX2 0), .inr (2, [.ref (aX2 1), .ref (aX2 2), .ref (aX2 3), .int 0])), ((aX2 1), .inl (cI, 12, .inl (fun _ => 0))), ((aX2 2), .inl (cI, 12, .inl (fun _ => 0))), ((aX2 3), .inl (cI, 12, .inl (fun _ => 0))), ((aX4 0), .inr (4, [.ref (aX4 1), .ref (aX4 2), .ref (aX4 3)])), ((aX4 1), .inl (cI, 3, .inl (fun _ => 0))), ((aX4 2), .inl (cI, 3, .inl (upd (upd (upd (fun _ => 0) (0 : Int32).toNatClampNeg (-1)) (1 : Int32).toNatClampNeg (-1)) (2 : Int32).toNatClampNeg (-1)))), ((aX4 3), .inl (cI, 3, .inl (fun _ => 0))), ((aX0 0), .inr (0, [.ref (aX0 1), .ref (aX0 2), .ref (aX0 3), .ref (aX0 4), .ref (aX0 5), .int 0])), ((aX0 1), .inl (cI, 8, .inl (fun _ => 0))), ((aX0 2), .inl (cI, 8, .inl (fun _ => 0))), ((aX0 3), .inl (cI, 8, .inl (fun _ => 0))), ((aX0 4), .inl (cI, 8, .inl (fun _ => 0))), ((aX0 5), .inl (cI, 8, .inl (fun _ => 0))), (q98, .inr (5, [.null]))] := hD
  refine lv_dup hx hb dX9_init_101 rfl ?_
  refine cc_cIN (rest := [.ref q98, .ref h0]) (wr := [(h0, .inr (9, [.int 0, .ref (aX8 0), .ref (aX1 0), .ref (aX7 0), .ref (aX3 0), .ref (aX6 0), .ref (aX2 0), .ref (aX4 0), .ref (aX0 0), .null])), ((aX8 0), .inr (8, [.ref (aX8 1), .ref (aX8 2), .ref (aX8 3), .int 0, .int 0, .int 0, .int 0])), ((aX8 1), .inl (cI, 48, .inl (fun _ => 0))), ((aX8 2), .inl (cZ, 48, .inl (fun _ => 0))), ((aX8 3), .inl (cZ, 12, .inl (fun _ => 0))), ((aX1 0), .inr (1, [.ref (aX1 1), .ref (aX1 2)])), ((aX1 1), .inl (cI, 12, .inl (fun _ => 0))), ((aX1 2), .inl (cI, 12, .inl (fun _ => 0))), ((aX7 0), .inr (7, [.ref (aX7 1), .ref (aX7 2), .ref (aX7 3), .int (i7_weather vX7)])), ((aX7 1), .inl (cI, 12, .inl (i7_limits vX7))), ((aX7 2), .inl (cI, 12, .inl (i7_shown vX7))), ((aX7 3), .inl (cI, 12, .inl (i7_loweredAt vX7))), ((aX3 0), .inr (3, [.ref (aX3 1), .ref (aX3 2), .ref (aX3 3)])), ((aX3 1), .inl (cI, 48, .inl (i3_orders vX3))), ((aX3 2), .inl (cI, 48, .inl (i3_told vX3))), ((aX3 3), .inl (cI, 48, .inl (i3_shown vX3))), ((aX6 0), .inr (6, [.ref (aX6 1), .ref (aX6 2)])), ((aX6 1), .inl (cZ, 12, .inl (i6_open vX6))), ((aX6 2), .inl (cI, 12, .inl (i6_foundClearAt vX6))), ((aX2 0), .inr (2, [.ref (aX2 1), .ref (aX2 2), .ref (aX2 3), .int 0])), ((aX2 1), .inl (cI, 12, .inl (fun _ => 0))), ((aX2 2), .inl (cI, 12, .inl (fun _ => 0))), ((aX2 3), .inl (cI, 12, .inl (fun _ => 0))), ((aX4 0), .inr (4, [.ref (aX4 1), .ref (aX4 2), .ref (aX4 3)])), ((aX4 1), .inl (cI, 3, .inl (fun _ => 0))), ((aX4 2), .inl (cI, 3, .inl (upd (upd (upd (fun _ => 0) (0 : Int32).toNatClampNeg (-1)) (1 : Int32).toNatClampNeg (-1)) (2 : Int32).toNatClampNeg (-1)))), ((aX4 3), .inl (cI, 3, .inl (fun _ => 0))), ((aX0 0), .inr (0, [.ref (aX0 1), .ref (aX0 2), .ref (aX0 3), .ref (aX0 4), .ref (aX0 5), .int 0])), ((aX0 1), .inl (cI, 8, .inl (fun _ => 0))), ((aX0 2), .inl (cI, 8, .inl (fun _ => 0))), ((aX0 3), .inl (cI, 8, .inl (fun _ => 0))), ((aX0 4), .inl (cI, 8, .inl (fun _ => 0))), ((aX0 5), .inl (cI, 8, .inl (fun _ => 0)))]) ⟨hx, hb, hml, hown, hts⟩ (kc_X5 l D cI cZ q98) ⟨va_cnB 0 hts (gwM mw_221) rfl rfl rfl (hZ.1 ("RedcrossGantry", 71, yX5_init) (by decide +kernel)) (hts _ mw_28) (by decide +kernel) ⟨Nat.le_of_ble_eq_true rfl, Nat.le_of_ble_eq_true rfl⟩, rfl, hts _ mw_220⟩ hK hP hD hS hA hZ [33] [0, 1, 2, 3, 4, 5, 6, 7, 8, 9, 10, 11, 12, 13, 14, 15, 16, 17, 18, 19, 20, 21, 22, 23, 24, 25, 26, 27, 28, 29, 30, 31, 32] rfl rfl (by decide) rfl (by decide) (by decide) hl.1 rfl (Nat.le_of_ble_eq_true rfl) dX9_init_102 ⟨Nat.le_of_ble_eq_true rfl, Nat.le_of_ble_eq_true rfl⟩ (fun aX5 H locs eaX5 hP9 hD9 hS => ?_)
  subst eaX5
  refine W.widen (k := 34) (n := 1173) (Nat.le_of_ble_eq_true rfl) (Nat.le_of_ble_eq_true rfl) ?_
  replace hP : va_P D vwCl [(h0, .inr (9, [.int 0, .ref (aX8 0), .ref (aX1 0), .ref (aX7 0), .ref (aX3 0), .ref (aX6 0), .ref (aX2 0), .ref (aX4 0), .ref (aX0 0), .null])), ((aX8 0), .inr (8, [.ref (aX8 1), .ref (aX8 2), .ref (aX8 3), .int 0, .int 0, .int 0, .int 0])), ((aX8 1), .inl (cI, 48, .inl (fun _ => 0))), ((aX8 2), .inl (cZ, 48, .inl (fun _ => 0))), ((aX8 3), .inl (cZ, 12, .inl (fun _ => 0))), ((aX1 0), .inr (1, [.ref (aX1 1), .ref (aX1 2)])), ((aX1 1), .inl (cI, 12, .inl (fun _ => 0))), ((aX1 2), .inl (cI, 12, .inl (fun _ => 0))), ((aX7 0), .inr (7, [.ref (aX7 1), .ref (aX7 2), .ref (aX7 3), .int (i7_weather vX7)])), ((aX7 1), .inl (cI, 12, .inl (i7_limits vX7))), ((aX7 2), .inl (cI, 12, .inl (i7_shown vX7))), ((aX7 3), .inl (cI, 12, .inl (i7_loweredAt vX7))), ((aX3 0), .inr (3, [.ref (aX3 1), .ref (aX3 2), .ref (aX3 3)])), ((aX3 1), .inl (cI, 48, .inl (i3_orders vX3))), ((aX3 2), .inl (cI, 48, .inl (i3_told vX3))), ((aX3 3), .inl (cI, 48, .inl (i3_shown vX3))), ((aX6 0), .inr (6, [.ref (aX6 1), .ref (aX6 2)])), ((aX6 1), .inl (cZ, 12, .inl (i6_open vX6))), ((aX6 2), .inl (cI, 12, .inl (i6_foundClearAt vX6))), ((aX2 0), .inr (2, [.ref (aX2 1), .ref (aX2 2), .ref (aX2 3), .int 0])), ((aX2 1), .inl (cI, 12, .inl (fun _ => 0))), ((aX2 2), .inl (cI, 12, .inl (fun _ => 0))), ((aX2 3), .inl (cI, 12, .inl (fun _ => 0))), ((aX4 0), .inr (4, [.ref (aX4 1), .ref (aX4 2), .ref (aX4 3)])), ((aX4 1), .inl (cI, 3, .inl (fun _ => 0))), ((aX4 2), .inl (cI, 3, .inl (upd (upd (upd (fun _ => 0) (0 : Int32).toNatClampNeg (-1)) (1 : Int32).toNatClampNeg (-1)) (2 : Int32).toNatClampNeg (-1)))), ((aX4 3), .inl (cI, 3, .inl (fun _ => 0))), ((aX0 0), .inr (0, [.ref (aX0 1), .ref (aX0 2), .ref (aX0 3), .ref (aX0 4), .ref (aX0 5), .int 0])), ((aX0 1), .inl (cI, 8, .inl (fun _ => 0))), ((aX0 2), .inl (cI, 8, .inl (fun _ => 0))), ((aX0 3), .inl (cI, 8, .inl (fun _ => 0))), ((aX0 4), .inl (cI, 8, .inl (fun _ => 0))), ((aX0 5), .inl (cI, 8, .inl (fun _ => 0))), ((aX5 0), .inr (5, [.ref (aX5 1)])), ((aX5 1), .inl (cI, 720, .inl (fun _ => 0)))] H := hP9
  replace hD : va_D A [(h0, .inr (9, [.int 0, .ref (aX8 0), .ref (aX1 0), .ref (aX7 0), .ref (aX3 0), .ref (aX6 0), .ref (aX2 0), .ref (aX4 0), .ref (aX0 0), .null])), ((aX8 0), .inr (8, [.ref (aX8 1), .ref (aX8 2), .ref (aX8 3), .int 0, .int 0, .int 0, .int 0])), ((aX8 1), .inl (cI, 48, .inl (fun _ => 0))), ((aX8 2), .inl (cZ, 48, .inl (fun _ => 0))), ((aX8 3), .inl (cZ, 12, .inl (fun _ => 0))), ((aX1 0), .inr (1, [.ref (aX1 1), .ref (aX1 2)])), ((aX1 1), .inl (cI, 12, .inl (fun _ => 0))), ((aX1 2), .inl (cI, 12, .inl (fun _ => 0))), ((aX7 0), .inr (7, [.ref (aX7 1), .ref (aX7 2), .ref (aX7 3), .int (i7_weather vX7)])), ((aX7 1), .inl (cI, 12, .inl (i7_limits vX7))), ((aX7 2), .inl (cI, 12, .inl (i7_shown vX7))), ((aX7 3), .inl (cI, 12, .inl (i7_loweredAt vX7))), ((aX3 0), .inr (3, [.ref (aX3 1), .ref (aX3 2), .ref (aX3 3)])), ((aX3 1), .inl (cI, 48, .inl (i3_orders vX3))), ((aX3 2), .inl (cI, 48, .inl (i3_told vX3))), ((aX3 3), .inl (cI, 48, .inl (i3_shown vX3))), ((aX6 0), .inr (6, [.ref (aX6 1), .ref (aX6 2)])), ((aX6 1), .inl (cZ, 12, .inl (i6_open vX6))), ((aX6 2), .inl (cI, 12, .inl (i6_foundClearAt vX6))), ((aX2 0), .inr (2, [.ref (aX2 1), .ref (aX2 2), .ref (aX2 3), .int 0])), ((aX2 1), .inl (cI, 12, .inl (fun _ => 0))), ((aX2 2), .inl (cI, 12, .inl (fun _ => 0))), ((aX2 3), .inl (cI, 12, .inl (fun _ => 0))), ((aX4 0), .inr (4, [.ref (aX4 1), .ref (aX4 2), .ref (aX4 3)])), ((aX4 1), .inl (cI, 3, .inl (fun _ => 0))), ((aX4 2), .inl (cI, 3, .inl (upd (upd (upd (fun _ => 0) (0 : Int32).toNatClampNeg (-1)) (1 : Int32).toNatClampNeg (-1)) (2 : Int32).toNatClampNeg (-1)))), ((aX4 3), .inl (cI, 3, .inl (fun _ => 0))), ((aX0 0), .inr (0, [.ref (aX0 1), .ref (aX0 2), .ref (aX0 3), .ref (aX0 4), .ref (aX0 5), .int 0])), ((aX0 1), .inl (cI, 8, .inl (fun _ => 0))), ((aX0 2), .inl (cI, 8, .inl (fun _ => 0))), ((aX0 3), .inl (cI, 8, .inl (fun _ => 0))), ((aX0 4), .inl (cI, 8, .inl (fun _ => 0))), ((aX0 5), .inl (cI, 8, .inl (fun _ => 0))), ((aX5 0), .inr (5, [.ref (aX5 1)])), ((aX5 1), .inl (cI, 720, .inl (fun _ => 0)))] := hD9
  refine va_putF (D := D) (ci := 9) (v := .ref (aX5 0)) (ty := (.object "RedcrossGantry$Proofs")) (C := RX9) (T := TX9) (N := 10) hx hb hts iX9 tyX9 tyX9_ok nmX9 hown hK hP hD hS 0 rfl rfl 9 (by decide) hf72 (fun _ h9 => h9) rfl hin rfl (by decide +kernel) rfl rfl (Nat.le_of_ble_eq_true rfl) dX9_init_105 (fun H locs hP hD hS => ?_)
  replace hP : va_P D vwCl [(h0, .inr (9, [.int 0, .ref (aX8 0), .ref (aX1 0), .ref (aX7 0), .ref (aX3 0), .ref (aX6 0), .ref (aX2 0), .ref (aX4 0), .ref (aX0 0), .ref (aX5 0)])), ((aX8 0), .inr (8, [.ref (aX8 1), .ref (aX8 2), .ref (aX8 3), .int 0, .int 0, .int 0, .int 0])), ((aX8 1), .inl (cI, 48, .inl (fun _ => 0))), ((aX8 2), .inl (cZ, 48, .inl (fun _ => 0))), ((aX8 3), .inl (cZ, 12, .inl (fun _ => 0))), ((aX1 0), .inr (1, [.ref (aX1 1), .ref (aX1 2)])), ((aX1 1), .inl (cI, 12, .inl (fun _ => 0))), ((aX1 2), .inl (cI, 12, .inl (fun _ => 0))), ((aX7 0), .inr (7, [.ref (aX7 1), .ref (aX7 2), .ref (aX7 3), .int (i7_weather vX7)])), ((aX7 1), .inl (cI, 12, .inl (i7_limits vX7))), ((aX7 2), .inl (cI, 12, .inl (i7_shown vX7))), ((aX7 3), .inl (cI, 12, .inl (i7_loweredAt vX7))), ((aX3 0), .inr (3, [.ref (aX3 1), .ref (aX3 2), .ref (aX3 3)])), ((aX3 1), .inl (cI, 48, .inl (i3_orders vX3))), ((aX3 2), .inl (cI, 48, .inl (i3_told vX3))), ((aX3 3), .inl (cI, 48, .inl (i3_shown vX3))), ((aX6 0), .inr (6, [.ref (aX6 1), .ref (aX6 2)])), ((aX6 1), .inl (cZ, 12, .inl (i6_open vX6))), ((aX6 2), .inl (cI, 12, .inl (i6_foundClearAt vX6))), ((aX2 0), .inr (2, [.ref (aX2 1), .ref (aX2 2), .ref (aX2 3), .int 0])), ((aX2 1), .inl (cI, 12, .inl (fun _ => 0))), ((aX2 2), .inl (cI, 12, .inl (fun _ => 0))), ((aX2 3), .inl (cI, 12, .inl (fun _ => 0))), ((aX4 0), .inr (4, [.ref (aX4 1), .ref (aX4 2), .ref (aX4 3)])), ((aX4 1), .inl (cI, 3, .inl (fun _ => 0))), ((aX4 2), .inl (cI, 3, .inl (upd (upd (upd (fun _ => 0) (0 : Int32).toNatClampNeg (-1)) (1 : Int32).toNatClampNeg (-1)) (2 : Int32).toNatClampNeg (-1)))), ((aX4 3), .inl (cI, 3, .inl (fun _ => 0))), ((aX0 0), .inr (0, [.ref (aX0 1), .ref (aX0 2), .ref (aX0 3), .ref (aX0 4), .ref (aX0 5), .int 0])), ((aX0 1), .inl (cI, 8, .inl (fun _ => 0))), ((aX0 2), .inl (cI, 8, .inl (fun _ => 0))), ((aX0 3), .inl (cI, 8, .inl (fun _ => 0))), ((aX0 4), .inl (cI, 8, .inl (fun _ => 0))), ((aX0 5), .inl (cI, 8, .inl (fun _ => 0))), ((aX5 0), .inr (5, [.ref (aX5 1)])), ((aX5 1), .inl (cI, 720, .inl (fun _ => 0)))] H := hP
  replace hD : va_D A [(h0, .inr (9, [.int 0, .ref (aX8 0), .ref (aX1 0), .ref (aX7 0), .ref (aX3 0), .ref (aX6 0), .ref (aX2 0), .ref (aX4 0), .ref (aX0 0), .ref (aX5 0)])), ((aX8 0), .inr (8, [.ref (aX8 1), .ref (aX8 2), .ref (aX8 3), .int 0, .int 0, .int 0, .int 0])), ((aX8 1), .inl (cI, 48, .inl (fun _ => 0))), ((aX8 2), .inl (cZ, 48, .inl (fun _ => 0))), ((aX8 3), .inl (cZ, 12, .inl (fun _ => 0))), ((aX1 0), .inr (1, [.ref (aX1 1), .ref (aX1 2)])), ((aX1 1), .inl (cI, 12, .inl (fun _ => 0))), ((aX1 2), .inl (cI, 12, .inl (fun _ => 0))), ((aX7 0), .inr (7, [.ref (aX7 1), .ref (aX7 2), .ref (aX7 3), .int (i7_weather vX7)])), ((aX7 1), .inl (cI, 12, .inl (i7_limits vX7))), ((aX7 2), .inl (cI, 12, .inl (i7_shown vX7))), ((aX7 3), .inl (cI, 12, .inl (i7_loweredAt vX7))), ((aX3 0), .inr (3, [.ref (aX3 1), .ref (aX3 2), .ref (aX3 3)])), ((aX3 1), .inl (cI, 48, .inl (i3_orders vX3))), ((aX3 2), .inl (cI, 48, .inl (i3_told vX3))), ((aX3 3), .inl (cI, 48, .inl (i3_shown vX3))), ((aX6 0), .inr (6, [.ref (aX6 1), .ref (aX6 2)])), ((aX6 1), .inl (cZ, 12, .inl (i6_open vX6))), ((aX6 2), .inl (cI, 12, .inl (i6_foundClearAt vX6))), ((aX2 0), .inr (2, [.ref (aX2 1), .ref (aX2 2), .ref (aX2 3), .int 0])), ((aX2 1), .inl (cI, 12, .inl (fun _ => 0))), ((aX2 2), .inl (cI, 12, .inl (fun _ => 0))), ((aX2 3), .inl (cI, 12, .inl (fun _ => 0))), ((aX4 0), .inr (4, [.ref (aX4 1), .ref (aX4 2), .ref (aX4 3)])), ((aX4 1), .inl (cI, 3, .inl (fun _ => 0))), ((aX4 2), .inl (cI, 3, .inl (upd (upd (upd (fun _ => 0) (0 : Int32).toNatClampNeg (-1)) (1 : Int32).toNatClampNeg (-1)) (2 : Int32).toNatClampNeg (-1)))), ((aX4 3), .inl (cI, 3, .inl (fun _ => 0))), ((aX0 0), .inr (0, [.ref (aX0 1), .ref (aX0 2), .ref (aX0 3), .ref (aX0 4), .ref (aX0 5), .int 0])), ((aX0 1), .inl (cI, 8, .inl (fun _ => 0))), ((aX0 2), .inl (cI, 8, .inl (fun _ => 0))), ((aX0 3), .inl (cI, 8, .inl (fun _ => 0))), ((aX0 4), .inl (cI, 8, .inl (fun _ => 0))), ((aX0 5), .inl (cI, 8, .inl (fun _ => 0))), ((aX5 0), .inr (5, [.ref (aX5 1)])), ((aX5 1), .inl (cI, 720, .inl (fun _ => 0)))] := hD
  obtain ⟨ad, ead⟩ : ∃ z : Nat → Nat, z = (fun k => ([h0, (aX8 0), (aX1 0), (aX7 0), (aX3 0), (aX6 0), (aX2 0), (aX4 0), (aX0 0), (aX5 0), (aX8 1), (aX8 2), (aX8 3), (aX1 1), (aX1 2), (aX7 1), (aX7 2), (aX7 3), (aX3 1), (aX3 2), (aX3 3), (aX6 1), (aX6 2), (aX2 1), (aX2 2), (aX2 3), (aX4 1), (aX4 2), (aX4 3), (aX0 1), (aX0 2), (aX0 3), (aX0 4), (aX0 5), (aX5 1)] : List Nat).getD k 0) := ⟨_, rfl⟩
  have had0 : ad 0 = h0 := by rw [ead]; rfl
  replace hP : va_P D vwCl (wC cI cZ ad (u0_X9 vX7 vX3 vX6)) H := by rw [ead]; exact hP.sub [0, 1, 5, 8, 12, 16, 19, 23, 27, 33, 2, 3, 4, 6, 7, 9, 10, 11, 13, 14, 15, 17, 18, 20, 21, 22, 24, 25, 26, 28, 29, 30, 31, 32, 34] rfl
  replace hD : va_D A (wC cI cZ ad (u0_X9 vX7 vX3 vX6)) := by rw [ead]; exact hD.sub [0, 1, 5, 8, 12, 16, 19, 23, 27, 33, 2, 3, 4, 6, 7, 9, 10, 11, 13, 14, 15, 17, 18, 20, 21, 22, 24, 25, 26, 28, 29, 30, 31, 32, 34] (by decide) rfl
  replace hl : lv_has ls 1 [(0, .ref (ad 0))] := by rw [had0]; exact hl
  generalize u0_X9 vX7 vX3 vX6 = u at h hP hD
  refine lv_aload_n hx hb dX9_init_108 rfl (lv_at hl 0 rfl) ?_
  refine va_get (D := D) (ci := 9) (v := .ref (ad 4)) (C := RX9) (T := TX9) (N := 10) hx hb hts iX9 hown hK hP 0 rfl rfl 4 (by decide) hf37 (fun _ h9 => h9) rfl dX9_init_109 ?_
  refine lv_aload_n hx hb dX9_init_112 rfl (lv_at hl 0 rfl) ?_
  refine va_get (D := D) (ci := 9) (v := .int (c_minute u)) (C := RX9) (T := TX9) (N := 10) hx hb hts iX9 hown hK hP 0 rfl rfl 0 (by decide) hf7 (fun _ h9 => h9) rfl dX9_init_113 ?_
  refine lv_aload_n hx hb dX9_init_116 rfl (lv_at hl 0 rfl) ?_
  refine va_get (D := D) (ci := 9) (v := .ref (ad 5)) (C := RX9) (T := TX9) (N := 10) hx hb hts iX9 hown hK hP 0 rfl rfl 5 (by decide) hf44 (fun _ h9 => h9) rfl dX9_init_117 ?_
  refine lv_aload_n hx hb dX9_init_120 rfl (lv_at hl 0 rfl) ?_
  refine va_get (D := D) (ci := 9) (v := .ref (ad 6)) (C := RX9) (T := TX9) (N := 10) hx hb hts iX9 hown hK hP 0 rfl rfl 6 (by decide) hf51 (fun _ h9 => h9) rfl dX9_init_121 ?_
  refine lv_aload_n hx hb dX9_init_124 rfl (lv_at hl 0 rfl) ?_
  refine va_get (D := D) (ci := 9) (v := .ref (ad 8)) (C := RX9) (T := TX9) (N := 10) hx hb hts iX9 hown hK hP 0 rfl rfl 8 (by decide) hf65 (fun _ h9 => h9) rfl dX9_init_125 ?_
  obtain ⟨y1, hc2, h⟩ := gx_bind h
  refine cc_vV (As := [.int (c_minute u), .ref (ad 5), .ref (ad 6), .ref (ad 8)]) (rest := []) ⟨hx, hb, hml, hown, hts⟩ (k_X3_setAnew l D cI cZ ad u (c_minute u) hc2) (cwV 4 hts (gwV mw_227 mw_228 mw_229 mw_23 mw_230) rfl rfl rfl (by decide +kernel) ⟨Nat.le_of_ble_eq_true rfl, Nat.le_of_ble_eq_true rfl⟩) hK hP hD hS hA hZ (ci := 3) (q0 := 4) rfl rfl rfl hl.1 rfl (Nat.le_of_ble_eq_true rfl) dX9_init_128 ⟨Nat.le_of_ble_eq_true rfl, Nat.le_of_ble_eq_true rfl⟩ (fun H locs hP hD hS => ?_)
  refine lv_aload_n hx hb dX9_init_131 rfl (lv_at hl 0 rfl) ?_
  refine va_get (D := D) (ci := 9) (v := .ref (ad 9)) (C := RX9) (T := TX9) (N := 10) hx hb hts iX9 hown hK hP 0 rfl rfl 9 (by decide) hf72 (fun _ h9 => h9) rfl dX9_init_132 ?_
  refine lv_aload_n hx hb dX9_init_135 rfl (lv_at hl 0 rfl) ?_
  refine va_get (D := D) (ci := 9) (v := .int (c_minute y1)) (C := RX9) (T := TX9) (N := 10) hx hb hts iX9 hown hK hP 0 rfl rfl 0 (by decide) hf7 (fun _ h9 => h9) rfl dX9_init_136 ?_
  refine lv_aload_n hx hb dX9_init_139 rfl (lv_at hl 0 rfl) ?_
  refine va_get (D := D) (ci := 9) (v := .ref (ad 3)) (C := RX9) (T := TX9) (N := 10) hx hb hts iX9 hown hK hP 0 rfl rfl 3 (by decide) hf30 (fun _ h9 => h9) rfl dX9_init_140 ?_
  refine va_get (D := D) (ci := 7) (v := .ref (ad 16)) (C := RX7) (T := TX7) (N := 4) hx hb hts iX7 hown hK hP 3 rfl rfl 1 (by decide) hf80 (fun _ h9 => h9) rfl dX9_init_143 ?_
  refine lv_aload_n hx hb dX9_init_146 rfl (lv_at hl 0 rfl) ?_
  refine va_get (D := D) (ci := 9) (v := .ref (ad 4)) (C := RX9) (T := TX9) (N := 10) hx hb hts iX9 hown hK hP 0 rfl rfl 4 (by decide) hf37 (fun _ h9 => h9) rfl dX9_init_147 ?_
  refine va_get (D := D) (ci := 3) (v := .ref (ad 20)) (C := RX3) (T := TX3) (N := 3) hx hb hts iX3 hown hK hP 4 rfl rfl 2 (by decide) hf84 (fun _ h9 => h9) rfl dX9_init_150 ?_
  obtain ⟨y3, hc4, h⟩ := gx_bind h
  refine cc_vV (As := [.int (c_minute y1), .ref (ad 16), .ref (ad 20)]) (rest := []) ⟨hx, hb, hml, hown, hts⟩ (k_X5_keep l D cI cZ ad y1 (c_minute y1) hc4) (cwV 3 hts (gwV mw_263 mw_264 mw_265 mw_28 mw_266) rfl rfl rfl (by decide +kernel) ⟨Nat.le_of_ble_eq_true rfl, Nat.le_of_ble_eq_true rfl⟩) hK hP hD hS hA hZ (ci := 5) (q0 := 9) rfl rfl rfl hl.1 rfl (Nat.le_of_ble_eq_true rfl) dX9_init_153 ⟨Nat.le_of_ble_eq_true rfl, Nat.le_of_ble_eq_true rfl⟩ (fun H locs hP hD hS => ?_)
  cases h
  exact cc_cret ad hx hb hr hQ hK had0 rfl hP hD hS dX9_init_156 hlocks
end
section
/-! calls over a part of the world, with the heap's growth: the law's own methods -/
def wD (cI cZ : ClassId) (ad : Nat → Nat) (o : Nat) (f : Nat → Int32) (u : GS) : va_W := (o, .inl (cI, 4, .inl f)) :: wC cI cZ ad u
/-- a method that answers an int, makes at most mc cells of ms slots, and lo cells at least -/
def MZ (l : Launch) (y : MethodName) (wds : List Cond) (rm : Room) (D : va_G) (tys : List (ClassId × FieldType)) (ws ws' : va_W) (av : List Value) (res : Int32) (mc ms lo : Nat) : Prop :=
  ∀ sz : Nat, Met l y wds rm (va_Pc av (cB D tys ws sz)) (va_Qi (S := Unit) (fun r _ => res = r) (fun _ t => cE D tys ws' (va_A ws sz) t ∧ sz + lo ≤ t.heap.size) (va_A ws sz)) mc ms (va_A ws sz)
section CPART
variable {p : Program} {l : Launch} {e : Env} {R : Room} {s : State} {m : MethodId} {args : Array Value} {below : List Frame} {meth : Method} {c : Code} {H : Heap} {locs : List Loc} {cells slots : Nat} {Q : State → Prop}
variable {cc : ByteArray} {pc nL index n maxL : Nat} {ls : Array Slot} {rest st0 : List Value} {D : va_G} {tys tysC : List (ClassId × FieldType)} {ws wc wr w1 ws' : va_W} {A0 : Nat → Prop} {y : MethodName} {bytes : ByteArray} {ret : Option FieldType} {wds : List Cond} {rm : Room} {own C : String} {b mc ms : Nat} {As : List Value} {res : Int32}
theorem cBackIF {a : Array Value} (hr : va_Run p l e R s m args below meth c H locs cells slots mc ms (F0 m pc ls st0) rest (va_Qi (S := Unit) (fun r _ => res = r) (fun _ t => cE D tysC w1 (va_A wc H.size) t) (va_A wc H.size) a) (va_A wc H.size)) (hP : va_P D vwCl ws H) (hD : va_D A0 ws) (hS : va_S A0 s.heap H locs) (hA : ∀ q : Nat, s.heap.size ≤ q → A0 q)
    (isC isR : List Nat) (hC : isC.map (fun i => ws[i]?) = wc.map some) (hR : isR.map (fun i => ws[i]?) = wr.map some) (hn : va_nd isR = true) (hdis : ∀ i ∈ isR, i ∉ isC)
    (kk : ∀ (H1 : Heap) (locs1 : List Loc), va_P D vwCl (wr ++ w1) H1 → va_D A0 (wr ++ w1) → va_S A0 s.heap H1 locs1 → W p l e R s m args below meth c H1 locs1 (cells + mc) (slots + ms) Q (F0 m (pc + 3) ls (.int res :: rest))) : W p l e R s m args below meth c H locs cells slots Q (F0 m pc ls st0) := by
  have hF := va_free (wc := wc) hD hS hA isC hC
  refine va_calli hr hS (fun q _ h => hF q h) hF (fun r u t H1 locs1 ht hvm hpost hB hz1 hk1 hS1 => ?_)
  obtain ⟨hP1, hK1, hD1⟩ := hB
  rw [ht] at hP1
  subst hpost
  obtain ⟨h1, h2⟩ := va_join hP hD isC isR hC hR hn hdis hk1 hF hP1 hD1
  exact kk H1 locs1 h1 h2 hS1
theorem cBackVF {a : Array Value} (hr : va_Run p l e R s m args below meth c H locs cells slots mc ms (F0 m pc ls st0) rest (va_Qv (S := Unit) (fun _ => True) (fun _ t => cE D tysC w1 (va_A wc H.size) t) (va_A wc H.size) a) (va_A wc H.size)) (hP : va_P D vwCl ws H) (hD : va_D A0 ws) (hS : va_S A0 s.heap H locs) (hA : ∀ q : Nat, s.heap.size ≤ q → A0 q)
    (isC isR : List Nat) (hC : isC.map (fun i => ws[i]?) = wc.map some) (hR : isR.map (fun i => ws[i]?) = wr.map some) (hn : va_nd isR = true) (hdis : ∀ i ∈ isR, i ∉ isC)
    (kk : ∀ (H1 : Heap) (locs1 : List Loc), va_P D vwCl (wr ++ w1) H1 → va_D A0 (wr ++ w1) → va_S A0 s.heap H1 locs1 → W p l e R s m args below meth c H1 locs1 (cells + mc) (slots + ms) Q (F0 m (pc + 3) ls rest)) : W p l e R s m args below meth c H locs cells slots Q (F0 m pc ls st0) := by
  have hF := va_free (wc := wc) hD hS hA isC hC
  refine va_callv hr hS (fun q _ h => hF q h) hF (fun u t H1 locs1 ht hvm hpost hB hz1 hk1 hS1 => ?_)
  obtain ⟨hP1, hK1, hD1⟩ := hB
  rw [ht] at hP1
  obtain ⟨h1, h2⟩ := va_join hP hD isC isR hC hR hn hdis hk1 hF hP1 hD1
  exact kk H1 locs1 h1 h2 hS1
theorem cc_iVF (S : CallFix p m c cc nL s args Wall own) (hM : MI l y wds rm D tysC wc w1 (.ref b :: As) res) (cw : CallW R s args own C index y bytes maxL ret wds rm 0 0 n) (hK : va_K D vwCl tysC s) (hP : va_P D vwCl ws H) (hD : va_D A0 ws) (hS : va_S A0 s.heap H locs) (hA : ∀ q : Nat, s.heap.size ≤ q → A0 q) (hZ : cst A0 s)
    (isC isR : List Nat) (hC : isC.map (fun i => ws[i]?) = wc.map some) (hC2 : isC.filterMap (fun i => ws[i]?) = wc) (hC3 : va_nd isC = true) (hR : isR.map (fun i => ws[i]?) = wr.map some) (hnd : va_nd isR = true) (hdis : ∀ i ∈ isR, i ∉ isC) {ci q0 N : Nat} {T : u_T} {fs : List Value} (hci : vwCl[ci]? = some (C, T, N)) (hq : wc[q0]? = some (b, .inr (ci, fs)))
    (hn : As.length = n) (hsz : ls.size = nL) (hst : st0 = As.reverse ++ .ref b :: rest) (hw : (rest.map fun v => v.category).sum ≤ 8) (hdg : decode cc pc = .ok (.invokevirtual index, 3)) (hcs : cells ≤ R.cells ∧ slots ≤ R.slots)
    (kk : ∀ (H1 : Heap) (locs1 : List Loc), va_P D vwCl (wr ++ w1) H1 → va_D A0 (wr ++ w1) → va_S A0 s.heap H1 locs1 → W p l e R s m args below meth c H1 locs1 cells slots Q (F0 m (pc + 3) ls (.int res :: rest))) : W p l e R s m args below meth c H locs cells slots Q (F0 m pc ls st0) :=
  cBackIF (va_runV (As := As) (rest := rest) S (hM H.size) cw ⟨cB_blind, va_recv hK (hP.sub isC hC2) hci hq, cPre hK (hP.sub isC hC2) (hD.sub isC hC3 hC) hS hA hZ _⟩ rfl hn hsz hst (lv_room hw) hdg hcs) hP hD hS hA isC isR hC hR hnd hdis kk
theorem cc_vVF (S : CallFix p m c cc nL s args Wall own) (hM : MV l y wds rm D tysC wc w1 (.ref b :: As)) (cw : CallW R s args own C index y bytes maxL ret wds rm 0 0 n) (hK : va_K D vwCl tysC s) (hP : va_P D vwCl ws H) (hD : va_D A0 ws) (hS : va_S A0 s.heap H locs) (hA : ∀ q : Nat, s.heap.size ≤ q → A0 q) (hZ : cst A0 s)
    (isC isR : List Nat) (hC : isC.map (fun i => ws[i]?) = wc.map some) (hC2 : isC.filterMap (fun i => ws[i]?) = wc) (hC3 : va_nd isC = true) (hR : isR.map (fun i => ws[i]?) = wr.map some) (hnd : va_nd isR = true) (hdis : ∀ i ∈ isR, i ∉ isC) {ci q0 N : Nat} {T : u_T} {fs : List Value} (hci : vwCl[ci]? = some (C, T, N)) (hq : wc[q0]? = some (b, .inr (ci, fs)))
    (hn : As.length = n) (hsz : ls.size = nL) (hst : st0 = As.reverse ++ .ref b :: rest) (hw : (rest.map fun v => v.category).sum ≤ 8) (hdg : decode cc pc = .ok (.invokevirtual index, 3)) (hcs : cells ≤ R.cells ∧ slots ≤ R.slots)
    (kk : ∀ (H1 : Heap) (locs1 : List Loc), va_P D vwCl (wr ++ w1) H1 → va_D A0 (wr ++ w1) → va_S A0 s.heap H1 locs1 → W p l e R s m args below meth c H1 locs1 cells slots Q (F0 m (pc + 3) ls rest)) : W p l e R s m args below meth c H locs cells slots Q (F0 m pc ls st0) :=
  cBackVF (va_runV (As := As) (rest := rest) S (hM H.size) cw ⟨cB_blind, va_recv hK (hP.sub isC hC2) hci hq, cPre hK (hP.sub isC hC2) (hD.sub isC hC3 hC) hS hA hZ _⟩ rfl hn hsz hst (lv_room hw) hdg hcs) hP hD hS hA isC isR hC hR hnd hdis kk
theorem cX_iVF {E : String} (S : CallFix p m c cc nL s args Wall own) (hM : XI l y wds rm D tysC wc w1 (.ref b :: As) E) (cw : CallW R s args own C index y bytes maxL ret wds rm 1 6 n) (hK : va_K D vwCl tysC s) (hP : va_P D vwCl ws H) (hD : va_D A0 ws) (hS : va_S A0 s.heap H locs) (hA : ∀ q : Nat, s.heap.size ≤ q → A0 q) (hZ : cst A0 s)
    (isC isR : List Nat) (hC : isC.map (fun i => ws[i]?) = wc.map some) (hC2 : isC.filterMap (fun i => ws[i]?) = wc) (hC3 : va_nd isC = true) (hR : isR.map (fun i => ws[i]?) = wr.map some) (hnd : va_nd isR = true) (hdis : ∀ i ∈ isR, i ∉ isC) {ci q0 N : Nat} {T : u_T} {fs : List Value} (hci : vwCl[ci]? = some (C, T, N)) (hq : wc[q0]? = some (b, .inr (ci, fs)))
    (hn : As.length = n) (hsz : ls.size = nL) (hst : st0 = As.reverse ++ .ref b :: rest) (hw : (rest.map fun v => v.category).sum ≤ 8) (hdg : decode cc pc = .ok (.invokevirtual index, 3)) (hcs : cells + 1 ≤ R.cells ∧ slots + 6 ≤ R.slots)
    (kx : ∀ (ce : Cell) (q9 : Addr) (H1 : Heap) (locs1 : List Loc), va_P D vwCl (wr ++ w1) H1 → va_D A0 (wr ++ w1) → va_S A0 s.heap H1 locs1 → s.heap.size + 1 ≤ H1.size → H1[q9]? = some ce → ce.vm = .none → s.vm.findClass E = some ce.cls → vx_W p l e R s m args below meth c H1 locs1 (cells + 1) (slots + 6) Q (F0 m pc ls rest) q9) : W p l e R s m args below meth c H locs cells slots Q (F0 m pc ls st0) := by
  have hF := va_free (wc := wc) hD hS hA isC hC
  refine vx_calli (vx_runV (As := As) (rest := rest) S (hM H.size) cw ⟨cB_blind, va_recv hK (hP.sub isC hC2) hci hq, cPre hK (hP.sub isC hC2) (hD.sub isC hC3 hC) hS hA hZ _⟩ rfl hn hsz hst (lv_room hw) hdg hcs) hS (fun q _ h => hF q h) hF (fun q _ h => hF q h) (fun E' ce q9 u t H1 locs1 ht hvm _ hB hz1 hk1 hS1 h1 h2 h3 => ?_) (fun r u t H1 locs1 ht hvm hpost => hpost.elim)
  obtain ⟨⟨rfl, hP1, hK1, hD1⟩, hz9⟩ := hB
  rw [ht] at hP1 hz9
  obtain ⟨g1, g2⟩ := va_join hP hD isC isR hC hR hnd hdis hk1 hF hP1 hD1
  exact kx ce q9 H1 locs1 g1 g2 hS1 (Nat.le_trans (Nat.add_le_add_right hS.1 1) hz9) h1 h2 h3
theorem cX_vVF {E : String} (S : CallFix p m c cc nL s args Wall own) (hM : XV l y wds rm D tysC wc w1 (.ref b :: As) E) (cw : CallW R s args own C index y bytes maxL ret wds rm 1 6 n) (hK : va_K D vwCl tysC s) (hP : va_P D vwCl ws H) (hD : va_D A0 ws) (hS : va_S A0 s.heap H locs) (hA : ∀ q : Nat, s.heap.size ≤ q → A0 q) (hZ : cst A0 s)
    (isC isR : List Nat) (hC : isC.map (fun i => ws[i]?) = wc.map some) (hC2 : isC.filterMap (fun i => ws[i]?) = wc) (hC3 : va_nd isC = true) (hR : isR.map (fun i => ws[i]?) = wr.map some) (hnd : va_nd isR = true) (hdis : ∀ i ∈ isR, i ∉ isC) {ci q0 N : Nat} {T : u_T} {fs : List Value} (hci : vwCl[ci]? = some (C, T, N)) (hq : wc[q0]? = some (b, .inr (ci, fs)))
    (hn : As.length = n) (hsz : ls.size = nL) (hst : st0 = As.reverse ++ .ref b :: rest) (hw : (rest.map fun v => v.category).sum ≤ 8) (hdg : decode cc pc = .ok (.invokevirtual index, 3)) (hcs : cells + 1 ≤ R.cells ∧ slots + 6 ≤ R.slots)
    (kx : ∀ (ce : Cell) (q9 : Addr) (H1 : Heap) (locs1 : List Loc), va_P D vwCl (wr ++ w1) H1 → va_D A0 (wr ++ w1) → va_S A0 s.heap H1 locs1 → s.heap.size + 1 ≤ H1.size → H1[q9]? = some ce → ce.vm = .none → s.vm.findClass E = some ce.cls → vx_W p l e R s m args below meth c H1 locs1 (cells + 1) (slots + 6) Q (F0 m pc ls rest) q9) : W p l e R s m args below meth c H locs cells slots Q (F0 m pc ls st0) := by
  have hF := va_free (wc := wc) hD hS hA isC hC
  refine vx_callv (vx_runV (As := As) (rest := rest) S (hM H.size) cw ⟨cB_blind, va_recv hK (hP.sub isC hC2) hci hq, cPre hK (hP.sub isC hC2) (hD.sub isC hC3 hC) hS hA hZ _⟩ rfl hn hsz hst (lv_room hw) hdg hcs) hS (fun q _ h => hF q h) hF (fun q _ h => hF q h) (fun E' ce q9 u t H1 locs1 ht hvm _ hB hz1 hk1 hS1 h1 h2 h3 => ?_) (fun u t H1 locs1 ht hvm hpost => hpost.elim)
  obtain ⟨⟨rfl, hP1, hK1, hD1⟩, hz9⟩ := hB
  rw [ht] at hP1 hz9
  obtain ⟨g1, g2⟩ := va_join hP hD isC isR hC hR hnd hdis hk1 hF hP1 hD1
  exact kx ce q9 H1 locs1 g1 g2 hS1 (Nat.le_trans (Nat.add_le_add_right hS.1 1) hz9) h1 h2 h3
theorem cBackIM {a : Array Value} (hr : va_Run p l e R s m args below meth c H locs cells slots mc ms (F0 m pc ls st0) rest (va_Qi (S := Unit) (fun r _ => res = r) (fun _ t => cE D tysC w1 (va_A wc H.size) t) (va_A wc H.size) a) (va_A wc H.size)) (hP : va_P D vwCl ws H) (hD : va_D A0 ws) (hS : va_S A0 s.heap H locs) (hA : ∀ q : Nat, s.heap.size ≤ q → A0 q)
    (isC isR : List Nat) (hC : isC.map (fun i => ws[i]?) = wc.map some) (hR : isR.map (fun i => ws[i]?) = wr.map some) (hn : va_nd isR = true) (hdis : ∀ i ∈ isR, i ∉ isC)
    (kk : ∀ (H1 : Heap) (locs1 : List Loc), va_P D vwCl (wr ++ w1) H1 → va_D A0 (wr ++ w1) → va_S A0 s.heap H1 locs1 → H.size + 0 ≤ H1.size → W p l e R s m args below meth c H1 locs1 (cells + mc) (slots + ms) Q (F0 m (pc + 3) ls (.int res :: rest))) : W p l e R s m args below meth c H locs cells slots Q (F0 m pc ls st0) := by
  have hF := va_free (wc := wc) hD hS hA isC hC
  refine va_calli hr hS (fun q _ h => hF q h) hF (fun r u t H1 locs1 ht hvm hpost hB hz1 hk1 hS1 => ?_)
  obtain ⟨hP1, hK1, hD1⟩ := hB
  rw [ht] at hP1
  subst hpost
  obtain ⟨h1, h2⟩ := va_join hP hD isC isR hC hR hn hdis hk1 hF hP1 hD1
  exact kk H1 locs1 h1 h2 hS1 hz1
theorem cBackIZ {a : Array Value} {lo : Nat} (hr : va_Run p l e R s m args below meth c H locs cells slots mc ms (F0 m pc ls st0) rest (va_Qi (S := Unit) (fun r _ => res = r) (fun _ t => cE D tysC w1 (va_A wc H.size) t ∧ H.size + lo ≤ t.heap.size) (va_A wc H.size) a) (va_A wc H.size)) (hP : va_P D vwCl ws H) (hD : va_D A0 ws) (hS : va_S A0 s.heap H locs) (hA : ∀ q : Nat, s.heap.size ≤ q → A0 q)
    (isC isR : List Nat) (hC : isC.map (fun i => ws[i]?) = wc.map some) (hR : isR.map (fun i => ws[i]?) = wr.map some) (hn : va_nd isR = true) (hdis : ∀ i ∈ isR, i ∉ isC)
    (kk : ∀ (H1 : Heap) (locs1 : List Loc), va_P D vwCl (wr ++ w1) H1 → va_D A0 (wr ++ w1) → va_S A0 s.heap H1 locs1 → H.size + lo ≤ H1.size → W p l e R s m args below meth c H1 locs1 (cells + mc) (slots + ms) Q (F0 m (pc + 3) ls (.int res :: rest))) : W p l e R s m args below meth c H locs cells slots Q (F0 m pc ls st0) := by
  have hF := va_free (wc := wc) hD hS hA isC hC
  refine va_calli hr hS (fun q _ h => hF q h) hF (fun r u t H1 locs1 ht hvm hpost hB hz1 hk1 hS1 => ?_)
  obtain ⟨⟨hP1, hK1, hD1⟩, hlo⟩ := hB
  rw [ht] at hP1 hlo
  subst hpost
  obtain ⟨h1, h2⟩ := va_join hP hD isC isR hC hR hn hdis hk1 hF hP1 hD1
  exact kk H1 locs1 h1 h2 hS1 hlo
theorem cc_iVM (S : CallFix p m c cc nL s args Wall own) (hM : MI l y wds rm D tysC wc w1 (.ref b :: As) res) (cw : CallW R s args own C index y bytes maxL ret wds rm 0 0 n) (hK : va_K D vwCl tysC s) (hP : va_P D vwCl ws H) (hD : va_D A0 ws) (hS : va_S A0 s.heap H locs) (hA : ∀ q : Nat, s.heap.size ≤ q → A0 q) (hZ : cst A0 s)
    (isC isR : List Nat) (hC : isC.map (fun i => ws[i]?) = wc.map some) (hC2 : isC.filterMap (fun i => ws[i]?) = wc) (hC3 : va_nd isC = true) (hR : isR.map (fun i => ws[i]?) = wr.map some) (hnd : va_nd isR = true) (hdis : ∀ i ∈ isR, i ∉ isC) {ci q0 N : Nat} {T : u_T} {fs : List Value} (hci : vwCl[ci]? = some (C, T, N)) (hq : wc[q0]? = some (b, .inr (ci, fs)))
    (hn : As.length = n) (hsz : ls.size = nL) (hst : st0 = As.reverse ++ .ref b :: rest) (hw : (rest.map fun v => v.category).sum ≤ 8) (hdg : decode cc pc = .ok (.invokevirtual index, 3)) (hcs : cells ≤ R.cells ∧ slots ≤ R.slots)
    (kk : ∀ (H1 : Heap) (locs1 : List Loc), va_P D vwCl (wr ++ w1) H1 → va_D A0 (wr ++ w1) → va_S A0 s.heap H1 locs1 → H.size + 0 ≤ H1.size → W p l e R s m args below meth c H1 locs1 cells slots Q (F0 m (pc + 3) ls (.int res :: rest))) : W p l e R s m args below meth c H locs cells slots Q (F0 m pc ls st0) :=
  cBackIM (va_runV (As := As) (rest := rest) S (hM H.size) cw ⟨cB_blind, va_recv hK (hP.sub isC hC2) hci hq, cPre hK (hP.sub isC hC2) (hD.sub isC hC3 hC) hS hA hZ _⟩ rfl hn hsz hst (lv_room hw) hdg hcs) hP hD hS hA isC isR hC hR hnd hdis kk
theorem cc_iSM (S : CallFix p m c cc nL s args Wall own) (hM : MI l y wds rm D tysC wc w1 As res) (cw : CallB R s args own index y bytes maxL ret wds rm 0 0 n ∧ (Cond.static y).before args s = true) (hK : va_K D vwCl tysC s) (hP : va_P D vwCl ws H) (hD : va_D A0 ws) (hS : va_S A0 s.heap H locs) (hA : ∀ q : Nat, s.heap.size ≤ q → A0 q) (hZ : cst A0 s)
    (isC isR : List Nat) (hC : isC.map (fun i => ws[i]?) = wc.map some) (hC2 : isC.filterMap (fun i => ws[i]?) = wc) (hC3 : va_nd isC = true) (hR : isR.map (fun i => ws[i]?) = wr.map some) (hnd : va_nd isR = true) (hdis : ∀ i ∈ isR, i ∉ isC)
    (hn : As.length = n) (hsz : ls.size = nL) (hst : st0 = As.reverse ++ rest) (hw : (rest.map fun v => v.category).sum ≤ 8) (hdg : decode cc pc = .ok (.invokestatic index, 3)) (hcs : cells ≤ R.cells ∧ slots ≤ R.slots)
    (kk : ∀ (H1 : Heap) (locs1 : List Loc), va_P D vwCl (wr ++ w1) H1 → va_D A0 (wr ++ w1) → va_S A0 s.heap H1 locs1 → H.size + 0 ≤ H1.size → W p l e R s m args below meth c H1 locs1 cells slots Q (F0 m (pc + 3) ls (.int res :: rest))) : W p l e R s m args below meth c H locs cells slots Q (F0 m pc ls st0) :=
  cBackIM (va_runS (As := As) (rest := rest) S (hM H.size) cw ⟨cB_blind, cPre hK (hP.sub isC hC2) (hD.sub isC hC3 hC) hS hA hZ _⟩ rfl hn hsz hst (lv_room hw) hdg hcs) hP hD hS hA isC isR hC hR hnd hdis kk
theorem cc_iSZ {lo : Nat} (S : CallFix p m c cc nL s args Wall own) (hM : MZ l y wds rm D tysC wc w1 As res mc ms lo) (cw : CallB R s args own index y bytes maxL ret wds rm mc ms n ∧ (Cond.static y).before args s = true) (hK : va_K D vwCl tysC s) (hP : va_P D vwCl ws H) (hD : va_D A0 ws) (hS : va_S A0 s.heap H locs) (hA : ∀ q : Nat, s.heap.size ≤ q → A0 q) (hZ : cst A0 s)
    (isC isR : List Nat) (hC : isC.map (fun i => ws[i]?) = wc.map some) (hC2 : isC.filterMap (fun i => ws[i]?) = wc) (hC3 : va_nd isC = true) (hR : isR.map (fun i => ws[i]?) = wr.map some) (hnd : va_nd isR = true) (hdis : ∀ i ∈ isR, i ∉ isC)
    (hn : As.length = n) (hsz : ls.size = nL) (hst : st0 = As.reverse ++ rest) (hw : (rest.map fun v => v.category).sum ≤ 8) (hdg : decode cc pc = .ok (.invokestatic index, 3)) (hcs : cells + mc ≤ R.cells ∧ slots + ms ≤ R.slots)
    (kk : ∀ (H1 : Heap) (locs1 : List Loc), va_P D vwCl (wr ++ w1) H1 → va_D A0 (wr ++ w1) → va_S A0 s.heap H1 locs1 → H.size + lo ≤ H1.size → W p l e R s m args below meth c H1 locs1 (cells + mc) (slots + ms) Q (F0 m (pc + 3) ls (.int res :: rest))) : W p l e R s m args below meth c H locs cells slots Q (F0 m pc ls st0) :=
  cBackIZ (va_runS (As := As) (rest := rest) S (hM H.size) cw ⟨cB_blind, cPre hK (hP.sub isC hC2) (hD.sub isC hC3 hC) hS hA hZ _⟩ rfl hn hsz hst (lv_room hw) hdg hcs) hP hD hS hA isC isR hC hR hnd hdis kk
theorem cc_iSHZ {lo : Nat} {hh : List (Nat × Nat × Nat × Nat)} (S : CallFix p m c cc nL s args Wall own) (hM : MZ l y wds rm D tysC wc w1 As res mc ms lo) (cw : vx_CSW R s args own index y bytes maxL ret hh wds rm mc ms n) (hK : va_K D vwCl tysC s) (hP : va_P D vwCl ws H) (hD : va_D A0 ws) (hS : va_S A0 s.heap H locs) (hA : ∀ q : Nat, s.heap.size ≤ q → A0 q) (hZ : cst A0 s)
    (isC isR : List Nat) (hC : isC.map (fun i => ws[i]?) = wc.map some) (hC2 : isC.filterMap (fun i => ws[i]?) = wc) (hC3 : va_nd isC = true) (hR : isR.map (fun i => ws[i]?) = wr.map some) (hnd : va_nd isR = true) (hdis : ∀ i ∈ isR, i ∉ isC)
    (hn : As.length = n) (hsz : ls.size = nL) (hst : st0 = As.reverse ++ rest) (hw : (rest.map fun v => v.category).sum ≤ 8) (hdg : decode cc pc = .ok (.invokestatic index, 3)) (hcs : cells + mc ≤ R.cells ∧ slots + ms ≤ R.slots)
    (kk : ∀ (H1 : Heap) (locs1 : List Loc), va_P D vwCl (wr ++ w1) H1 → va_D A0 (wr ++ w1) → va_S A0 s.heap H1 locs1 → H.size + lo ≤ H1.size → W p l e R s m args below meth c H1 locs1 (cells + mc) (slots + ms) Q (F0 m (pc + 3) ls (.int res :: rest))) : W p l e R s m args below meth c H locs cells slots Q (F0 m pc ls st0) :=
  cBackIZ (vx_runSW (As := As) (rest := rest) S (hM H.size) cw ⟨cB_blind, cPre hK (hP.sub isC hC2) (hD.sub isC hC3 hC) hS hA hZ _⟩ rfl hn hsz hst (lv_room hw) hdg hcs) hP hD hS hA isC isR hC hR hnd hdis kk
theorem cc_retZ {v : Int32} {ty : FieldType} {lo : Nat} (hx : p.tables.exec = Jvm.exec) (hb : c.code = cc) (hr : meth.sig.returnType = some ty) (hn : narrow ty (.int v) = .int v) (hQ : Q = MQ below (va_Qi (S := Unit) (fun r _ => res = r) (fun _ t => cE D tys ws' A0 t ∧ s.heap.size + lo ≤ t.heap.size) A0) args s mc ms A0) (hK : va_K D vwCl tys s) (hP : va_P D vwCl ws' H) (hD : va_D A0 ws') (hS : va_S A0 s.heap H locs) (hN : s.heap.size + lo ≤ H.size) (hv : res = v) (hdg : decode cc pc = .ok (.ireturn, 1)) (hlocks : meth.locks = false) : W p l e R s m args below meth c H locs mc ms Q (F0 m pc ls [.int v]) := by
  subst hQ
  exact W.zret hx hb hr hn (fun t ht hW => ⟨⟨v, (), rfl, hv, ⟨by rw [ht]; exact hP, va_K.moved hW.alike hK, hD⟩, by rw [ht]; exact hN⟩, hS.F ht⟩) hS.2.2 hdg hlocks
/-- a store into a whole row of ints: the heap's size stays -/
theorem va_iastM {a : Nat} (hexec : p.tables.exec = Jvm.exec) (hb : c.code = cc) (hK : va_K D vwCl tys s) (hP : va_P D vwCl ws H) (hD : va_D A0 ws) (hS : va_S A0 s.heap H locs) (q0 t0 : Nat) {cA : ClassId} {n : Nat} {f : Nat → Int32} (ha : ws[q0]? = some (a, .inl (cA, n, .inl f))) (ht : tys[t0]? = some (cA, .int)) {i : Int32} {x : Int32} (hin : vp_in i n) (hdg : decode cc pc = .ok (.iastore, 1))
    (kk : ∀ (H1 : Heap) (locs1 : List Loc), va_P D vwCl (ws.set q0 (a, .inl (cA, n, .inl (upd f i.toNatClampNeg x)))) H1 → va_D A0 (ws.set q0 (a, .inl (cA, n, .inl (upd f i.toNatClampNeg x)))) → va_S A0 s.heap H1 locs1 → H1.size = H.size → W p l e R s m args below meth c H1 locs1 cells slots Q (F0 m (pc + 1) ls rest)) : W p l e R s m args below meth c H locs cells slots Q (F0 m pc ls (.int x :: .int i :: .ref a :: rest)) := by
  refine W.iast hexec hb (hP q0 _ ha) ((hK.2 t0 _ ht).1 n (fun j => .int (f j))) (fun q => by cases q) (by show ¬ (i < 0 ∨ (arrV _ _ _).slots.size ≤ _); rw [arrV_size]; exact hin) rfl rfl hdg fun H1 e z oq => ?_
  refine kk H1 _ (hP.set hD ha ?_ oq) (hD.set ha) (hS.put z oq (hD.2 q0 _ ha)) z
  show H1[a]? = some (vp_cell _ _)
  rw [e]
  rw [vp_cell_i, vp_cell_i, arrV_store]
  congr 2
  funext q
  by_cases hq : q = i.toNatClampNeg
  · subst hq
    simp [updV, upd]
  · simp [updV, upd, hq]
theorem upd_id (f : Nat → Int32) (i : Nat) : upd f i (f i) = f := funext fun j => by
  by_cases h : j = i
  · rw [h, upd, if_pos rfl]
  · rw [upd, if_neg h]
end CPART
/-- draw: the script's own row, which no method writes -/
def MDr (l : Launch) (rm : Room) (b L : Nat) (xs : Nat → Int32) (k res : Int32) : Prop :=
  ∀ sz : Nat, Met l yL_draw (wm yL_draw cL_draw 2 (some .int)) rm (va_Pc [.ref b, .int k] (fun U => U.heap.size = sz ∧ va_X b L xs U U.heap)) (va_Qi (S := Unit) (fun r _ => res = r) (fun _ _ => True) (fun q => sz ≤ q)) 0 0 (fun q => sz ≤ q)
theorem MDr_blind {b L sz : Nat} {xs : Nat → Int32} {av : List Value} : FrameBlind (va_Pc av (fun U => U.heap.size = sz ∧ va_X b L xs U U.heap)) := fun a U g mk q => ⟨q.1, q.2.1, va_X.moved (u := U) (U := U.calling g mk a) (Vm.Alike.refl U.vm) q.2.2⟩
section CDRAW
variable {p : Program} {l : Launch} {e : Env} {R : Room} {s : State} {m : MethodId} {args : Array Value} {below : List Frame} {meth : Method} {c : Code} {H : Heap} {locs : List Loc} {cells slots : Nat} {Q : State → Prop}
variable {cc : ByteArray} {pc nL index : Nat} {ls : Array Slot} {rest st0 : List Value} {D : va_G} {ws : va_W} {A0 : Nat → Prop} {rm : Room} {own : String} {b L : Nat} {xs : Nat → Int32} {k res : Int32}
theorem cc_draw (S : CallFix p m c cc nL s args Wall own) (hM : MDr l rm b L xs k res) (cw : CallB R s args own index yL_draw cL_draw 2 (some .int) (wm yL_draw cL_draw 2 (some .int)) rm 0 0 2 ∧ (Cond.static yL_draw).before args s = true) (hX : va_X b L xs s s.heap) (hbl : b < s.heap.size) (hbA : ¬ A0 b) (hP : va_P D vwCl ws H) (hS : va_S A0 s.heap H locs) (hA : ∀ q : Nat, s.heap.size ≤ q → A0 q)
    (hsz : ls.size = nL) (hst : st0 = .int k :: .ref b :: rest) (hw : (rest.map fun v => v.category).sum ≤ 8) (hdg : decode cc pc = .ok (.invokestatic index, 3)) (hcs : cells ≤ R.cells ∧ slots ≤ R.slots)
    (kk : ∀ (H1 : Heap) (locs1 : List Loc), va_P D vwCl ws H1 → va_S A0 s.heap H1 locs1 → H.size ≤ H1.size → W p l e R s m args below meth c H1 locs1 cells slots Q (F0 m (pc + 3) ls (.int res :: rest))) : W p l e R s m args below meth c H locs cells slots Q (F0 m pc ls st0) := by
  have hF : ∀ q : Nat, H.size ≤ q → A0 q := fun q h => hA q (Nat.le_trans hS.1 h)
  have hr := va_runS (locs := locs) (cells := cells) (slots := slots) (l := l) (e := e) (below := below) (meth := meth) (g := F0 m pc ls st0) (As := [.ref b, .int k]) (rest := rest) S (hM H.size) cw ⟨MDr_blind, fun U hU hW => ⟨rfl, by rw [hU], by rw [hU]; exact va_X.moved hW.alike (hX.kept (hS.2.1 b hbl hbA))⟩⟩ rfl rfl hsz (by rw [hst]; rfl) (lv_room hw) hdg hcs
  refine va_calli hr hS (fun q _ h => hF q h) hF (fun r u t H1 locs1 ht hvm hpost hB hz1 hk1 hS1 => ?_)
  subst hpost
  exact kk H1 locs1 (hP.kept (fun k q hk => hk1 q.1 (hP k q hk).lt (Nat.not_le.mpr (hP k q hk).lt))) hS1 hz1
end CDRAW
end
section
def rL_isShown : Room := { frames := 6, cells := 0, slots := 0, locals := 136 }
set_option maxHeartbeats 4000000 in
set_option maxRecDepth 100000 in
theorem k_L_isShown (l : Launch) (D : va_G) (cI cZ : ClassId) (ad : Nat → Nat) (u : GS) (p0 : Int32) {r : Int32} {w' : GS} (h : g_L_isShown u p0 = some (.inl r, w')) : MI l yL_isShown (wm yL_isShown cL_isShown 6 (some .boolean)) rL_isShown D [(cI, .int), (cZ, .boolean)] (wC cI cZ ad u) (wC cI cZ ad w') [.ref (ad 0), .int p0] r := by
  intro sz
  refine Met.ofW (cc := cL_isShown) (maxL := 6) (ret := (some .boolean)) (by decide) rfl ?_
  intro p e s m args below meth c s₁ B hml hv
  obtain ⟨rfl, hsz, hP, hK, hD0, hZ⟩ := hv
  have hx := B.exec
  have hb := B.bytes
  have hr := B.returns
  have hts : ∀ w ∈ Wall, w.before _ s = true := fun w hw => atoms_spec (ws := wm yL_isShown cL_isShown 6 (some .boolean)) B.pre w (List.mem_cons_of_mem _ hw)
  have hown : s.vm.findClass RL = some m.cls := findClass_of_methodNamed B.named
  have hlocks := B.notSynchronized
  subst hsz
  have hD := hD0.self (sz := s.heap.size)
  generalize hAe : va_A (wC cI cZ ad u) s.heap.size = A at hD hZ ⊢
  have hA : ∀ q : Nat, s.heap.size ≤ q → A q := fun q h => by rw [← hAe]; exact Or.inr h
  have hS : va_S A s.heap s.heap [] := va_S.rf
  have hl := lv_entry ([.ref (ad 0), .int p0]) (n := 6) (Nat.le_of_ble_eq_true rfl)
  rw [lg_entry_eq]
  generalize (lg_sl ([.ref (ad 0), .int p0]) ++ List.replicate (6 - (lg_sl ([.ref (ad 0), .int p0])).length) Slot.unset).toArray = ls at hl ⊢
  replace hl : lv_has ls 6 [(0, .ref (ad 0)), (1, .int p0)] := hl
  refine w_gen (fun Q hQ => ?_)
  refine lv_iload_n hx hb dL_isShown_0 rfl (lv_at hl 1 rfl) ?_
  refine lv_bipush (v := 60) hx hb dL_isShown_1 (by decide) ?_
  obtain ⟨j28_1, ej28_1, h⟩ := gx_let h
  have hj28_1 : ∀ (z0_28 : Int32) (w28 : GS) (H : Heap) (locs : List Loc) (ls : Array Slot), j28_1 z0_28 w28 = some (.inl r, w') → va_P D vwCl (wC cI cZ ad w28) H → va_D A (wC cI cZ ad w28) → va_S A s.heap H locs → lv_has ls 6 [(0, .ref (ad 0)), (1, .int p0)] → W p l e rL_isShown s m ([.ref (ad 0), .int p0] : List Value).toArray below meth c H locs 0 0 Q (F0 m 28 ls [.int z0_28]) := by
    intro z0_28 w28 H locs ls h hP hD hS hl
    subst ej28_1
    refine lv_istore_n (lv' := [(2, .int z0_28), (0, .ref (ad 0)), (1, .int p0)]) hx hb dL_isShown_28 rfl hl (by decide) rfl (fun ls hl => ?_)
    refine lv_iconst (v := 0) hx hb dL_isShown_29 (by decide) ?_
    refine lv_istore_n (lv' := [(3, .int (0 : Int32)), (2, .int z0_28), (0, .ref (ad 0)), (1, .int p0)]) hx hb dL_isShown_30 rfl hl (by decide) rfl (fun ls hl => ?_)
    have hL31 : ∀ (k : Int32 → GS → Option (g_X × GS)) (hk : ∀ (x2_31 : Int32) (w31 : GS) (H : Heap) (locs : List Loc) (ls : Array Slot), k x2_31 w31 = some (.inl r, w') → va_P D vwCl (wC cI cZ ad w31) H → va_D A (wC cI cZ ad w31) → va_S A s.heap H locs → lv_has ls 6 [(2, .int x2_31)] → W p l e rL_isShown s m ([.ref (ad 0), .int p0] : List Value).toArray below meth c H locs 0 0 Q (F0 m 162 ls [])) (n : Nat) (x2_31 : Int32) (x3_31 : Int32) (w31 : GS) (H : Heap) (locs : List Loc) (ls : Array Slot), lp_L_isShown_31 p0 k n x2_31 x3_31 w31 = some (.inl r, w') → va_P D vwCl (wC cI cZ ad w31) H → va_D A (wC cI cZ ad w31) → va_S A s.heap H locs → lv_has ls 6 [(0, .ref (ad 0)), (1, .int p0), (2, .int x2_31), (3, .int x3_31)] → W p l e rL_isShown s m ([.ref (ad 0), .int p0] : List Value).toArray below meth c H locs 0 0 Q (F0 m 31 ls []) := by
      intro k hk n
      induction n with
      | zero =>
        intro x2_31 x3_31 w31 H locs ls h
        rw [lp_L_isShown_31] at h
        cases h
      | succ n ih =>
        intro x2_31 x3_31 w31 H locs ls h hP hD hS hl
        rw [lp_L_isShown_31] at h
        refine lv_iload_n hx hb dL_isShown_31 rfl (lv_at hl 3 rfl) ?_
        refine lv_bipush (v := 12) hx hb dL_isShown_32 (by decide) ?_
        refine lv_icmp_ge (tgt := 162) hx hb dL_isShown_34 (by decide) (fun c2 => ?_) (fun c2 => ?_)
        · replace h := gx_t c2 h
          exact hk x2_31 w31 _ _ _ h hP hD hS (lv_sub hl [2] rfl)
        · replace h := gx_f c2 h
          refine lv_iload_n hx hb dL_isShown_37 rfl (lv_at hl 2 rfl) ?_
          refine lv_if_eq (tgt := 162) hx hb dL_isShown_38 (by decide) (fun c3 => ?_) (fun c3 => ?_)
          · replace h := gx_t c3 h
            exact hk x2_31 w31 _ _ _ h hP hD hS (lv_sub hl [2] rfl)
          · replace h := gx_f c3 h
            refine lv_aload_n hx hb dL_isShown_41 rfl (lv_at hl 0 rfl) ?_
            refine lv_iload_n hx hb dL_isShown_42 rfl (lv_at hl 3 rfl) ?_
            refine lv_iconst (v := 3) hx hb dL_isShown_43 (by decide) ?_
            obtain ⟨y4, u5, hc6, h⟩ := gx_xr h
            refine cc_iV (As := [.int x3_31, .int (3 : Int32)]) (rest := []) ⟨hx, hb, hml, hown, hts⟩ (k_X9_section l D cI cZ ad w31 x3_31 (3 : Int32) hc6) (cwV 2 hts (gwV mw_625 mw_626 mw_627 mw_19 mw_628) rfl rfl rfl (by decide +kernel) ⟨Nat.le_of_ble_eq_true rfl, Nat.le_of_ble_eq_true rfl⟩) hK hP hD hS hA hZ (ci := 9) (q0 := 0) rfl rfl rfl hl.1 rfl (Nat.le_of_ble_eq_true rfl) dL_isShown_44 ⟨Nat.zero_le _, Nat.zero_le _⟩ (fun H locs hP hD hS => ?_)
            refine lv_istore (lv' := [(4, .int y4), (0, .ref (ad 0)), (1, .int p0), (2, .int x2_31), (3, .int x3_31)]) hx hb dL_isShown_47 hl (by decide) rfl (fun ls hl => ?_)
            refine lv_aload_n hx hb dL_isShown_49 rfl (lv_at hl 1 rfl) ?_
            refine lv_iload_n hx hb dL_isShown_50 rfl (lv_at hl 2 rfl) ?_
            refine lv_iload_n hx hb dL_isShown_51 rfl (lv_at hl 4 rfl) ?_
            refine lv_iconst (v := 0) hx hb dL_isShown_52 (by decide) ?_
            obtain ⟨y7, u8, hc9, h⟩ := gx_xr h
            refine cc_iV (As := [.int p0, .int x3_31, .int (0 : Int32)]) (rest := []) ⟨hx, hb, hml, hown, hts⟩ (k_X9_proof l D cI cZ ad u5 p0 x3_31 (0 : Int32) hc9) (cwV 3 hts (gwV mw_428 mw_429 mw_430 mw_19 mw_431) rfl rfl rfl (by decide +kernel) ⟨Nat.le_of_ble_eq_true rfl, Nat.le_of_ble_eq_true rfl⟩) hK hP hD hS hA hZ (ci := 9) (q0 := 0) rfl rfl rfl hl.1 rfl (Nat.le_of_ble_eq_true rfl) dL_isShown_53 ⟨Nat.zero_le _, Nat.zero_le _⟩ (fun H locs hP hD hS => ?_)
            refine lv_iload hx hb dL_isShown_56 (lv_at hl 0 rfl) ?_
            obtain ⟨j110_10, ej110_10, h⟩ := gx_let h
            have hj110_10 : ∀ (z0_110 : Int32) (w110 : GS) (H : Heap) (locs : List Loc) (ls : Array Slot), j110_10 z0_110 w110 = some (.inl r, w') → va_P D vwCl (wC cI cZ ad w110) H → va_D A (wC cI cZ ad w110) → va_S A s.heap H locs → lv_has ls 6 [(0, .ref (ad 0)), (1, .int p0), (3, .int x3_31)] → W p l e rL_isShown s m ([.ref (ad 0), .int p0] : List Value).toArray below meth c H locs 0 0 Q (F0 m 110 ls [.int z0_110]) := by
              intro z0_110 w110 H locs ls h hP hD hS hl
              subst ej110_10
              refine lv_istore_n (lv' := [(2, .int z0_110), (0, .ref (ad 0)), (1, .int p0), (3, .int x3_31)]) hx hb dL_isShown_110 rfl hl (by decide) rfl (fun ls hl => ?_)
              refine lv_iconst (v := 0) hx hb dL_isShown_111 (by decide) ?_
              refine lv_istore (lv' := [(5, .int (0 : Int32)), (2, .int z0_110), (0, .ref (ad 0)), (1, .int p0), (3, .int x3_31)]) hx hb dL_isShown_112 hl (by decide) rfl (fun ls hl => ?_)
              have hL114 : ∀ (k : Int32 → GS → Option (g_X × GS)) (hk : ∀ (x2_114 : Int32) (w114 : GS) (H : Heap) (locs : List Loc) (ls : Array Slot), k x2_114 w114 = some (.inl r, w') → va_P D vwCl (wC cI cZ ad w114) H → va_D A (wC cI cZ ad w114) → va_S A s.heap H locs → lv_has ls 6 [(0, .ref (ad 0)), (1, .int p0), (2, .int x2_114), (3, .int x3_31)] → W p l e rL_isShown s m ([.ref (ad 0), .int p0] : List Value).toArray below meth c H locs 0 0 Q (F0 m 156 ls [])) (n : Nat) (x2_114 : Int32) (x5_114 : Int32) (w114 : GS) (H : Heap) (locs : List Loc) (ls : Array Slot), lp_L_isShown_114 p0 x3_31 k n x2_114 x5_114 w114 = some (.inl r, w') → va_P D vwCl (wC cI cZ ad w114) H → va_D A (wC cI cZ ad w114) → va_S A s.heap H locs → lv_has ls 6 [(0, .ref (ad 0)), (1, .int p0), (2, .int x2_114), (3, .int x3_31), (5, .int x5_114)] → W p l e rL_isShown s m ([.ref (ad 0), .int p0] : List Value).toArray below meth c H locs 0 0 Q (F0 m 114 ls []) := by
                intro k hk n
                induction n with
                | zero =>
                  intro x2_114 x5_114 w114 H locs ls h
                  rw [lp_L_isShown_114] at h
                  cases h
                | succ n ih =>
                  intro x2_114 x5_114 w114 H locs ls h hP hD hS hl
                  rw [lp_L_isShown_114] at h
                  refine lv_iload hx hb dL_isShown_114 (lv_at hl 4 rfl) ?_
                  refine lv_iconst (v := 4) hx hb dL_isShown_116 (by decide) ?_
                  refine lv_icmp_ge (tgt := 156) hx hb dL_isShown_117 (by decide) (fun c11 => ?_) (fun c11 => ?_)
                  · replace h := gx_t c11 h
                    exact hk x2_114 w114 _ _ _ h hP hD hS (lv_sub hl [0, 1, 2, 3] rfl)
                  · replace h := gx_f c11 h
                    refine lv_iload_n hx hb dL_isShown_120 rfl (lv_at hl 2 rfl) ?_
                    obtain ⟨j149_12, ej149_12, h⟩ := gx_let h
                    have hj149_12 : ∀ (z0_149 : Int32) (w149 : GS) (H : Heap) (locs : List Loc) (ls : Array Slot), j149_12 z0_149 w149 = some (.inl r, w') → va_P D vwCl (wC cI cZ ad w149) H → va_D A (wC cI cZ ad w149) → va_S A s.heap H locs → lv_has ls 6 [(0, .ref (ad 0)), (1, .int p0), (3, .int x3_31), (5, .int x5_114)] → W p l e rL_isShown s m ([.ref (ad 0), .int p0] : List Value).toArray below meth c H locs 0 0 Q (F0 m 149 ls [.int z0_149]) := by
                      intro z0_149 w149 H locs ls h hP hD hS hl
                      subst ej149_12
                      refine lv_istore_n (lv' := [(2, .int z0_149), (0, .ref (ad 0)), (1, .int p0), (3, .int x3_31), (5, .int x5_114)]) hx hb dL_isShown_149 rfl hl (by decide) rfl (fun ls hl => ?_)
                      obtain ⟨v13, ev13, h⟩ := gx_let h
                      refine lv_iinc (v := v13) (lv' := [(5, .int v13), (2, .int z0_149), (0, .ref (ad 0)), (1, .int p0), (3, .int x3_31)]) hx hb dL_isShown_150 hl (k := 4) rfl (by rw [← ev13]; rfl) (by decide) rfl (fun ls hl => ?_)
                      refine lv_goto (tgt := 114) hx hb dL_isShown_153 (by decide) ?_
                      exact ih z0_149 v13 w149 _ _ _ h hP hD hS (lv_sub hl [2, 3, 1, 4, 0] rfl)
                    obtain ⟨j148_14, ej148_14, h⟩ := gx_let h
                    have hj148_14 : ∀ (w148 : GS) (H : Heap) (locs : List Loc) (ls : Array Slot), j148_14 w148 = some (.inl r, w') → va_P D vwCl (wC cI cZ ad w148) H → va_D A (wC cI cZ ad w148) → va_S A s.heap H locs → lv_has ls 6 [(0, .ref (ad 0)), (1, .int p0), (3, .int x3_31), (5, .int x5_114)] → W p l e rL_isShown s m ([.ref (ad 0), .int p0] : List Value).toArray below meth c H locs 0 0 Q (F0 m 148 ls []) := by
                      intro w148 H locs ls h hP hD hS hl
                      subst ej148_14
                      refine lv_iconst (v := 0) hx hb dL_isShown_148 (by decide) ?_
                      exact hj149_12 (0 : Int32) w148 _ _ _ h hP hD hS (lv_sub hl [0, 1, 2, 3] rfl)
                    refine lv_if_eq (tgt := 148) hx hb dL_isShown_121 (by decide) (fun c15 => ?_) (fun c15 => ?_)
                    · replace h := gx_t c15 h
                      exact hj148_14 w114 _ _ _ h hP hD hS (lv_sub hl [0, 1, 3, 4] rfl)
                    · replace h := gx_f c15 h
                      refine lv_aload_n hx hb dL_isShown_124 rfl (lv_at hl 0 rfl) ?_
                      refine lv_iload_n hx hb dL_isShown_125 rfl (lv_at hl 1 rfl) ?_
                      refine lv_iload_n hx hb dL_isShown_126 rfl (lv_at hl 3 rfl) ?_
                      refine lv_iconst (v := 1) hx hb dL_isShown_127 (by decide) ?_
                      refine lv_iload hx hb dL_isShown_128 (lv_at hl 4 rfl) ?_
                      refine lv_iadd hx hb dL_isShown_130 ?_
                      obtain ⟨y16, u17, hc18, h⟩ := gx_xr h
                      refine cc_iV (As := [.int p0, .int x3_31, .int ((1 : Int32) + x5_114)]) (rest := []) ⟨hx, hb, hml, hown, hts⟩ (k_X9_proof l D cI cZ ad w114 p0 x3_31 ((1 : Int32) + x5_114) hc18) (cwV 3 hts (gwV mw_428 mw_429 mw_430 mw_19 mw_431) rfl rfl rfl (by decide +kernel) ⟨Nat.le_of_ble_eq_true rfl, Nat.le_of_ble_eq_true rfl⟩) hK hP hD hS hA hZ (ci := 9) (q0 := 0) rfl rfl rfl hl.1 rfl (Nat.le_of_ble_eq_true rfl) dL_isShown_131 ⟨Nat.zero_le _, Nat.zero_le _⟩ (fun H locs hP hD hS => ?_)
                      refine lv_aload_n hx hb dL_isShown_134 rfl (lv_at hl 0 rfl) ?_
                      refine lv_iload_n hx hb dL_isShown_135 rfl (lv_at hl 3 rfl) ?_
                      refine lv_iload hx hb dL_isShown_136 (lv_at hl 4 rfl) ?_
                      obtain ⟨y19, u20, hc21, h⟩ := gx_xr h
                      refine cc_iV (As := [.int x3_31, .int x5_114]) (rest := [.int y16]) ⟨hx, hb, hml, hown, hts⟩ (k_X9_sign l D cI cZ ad u17 x3_31 x5_114 hc21) (cwV 2 hts (gwV mw_305 mw_306 mw_307 mw_19 mw_308) rfl rfl rfl (by decide +kernel) ⟨Nat.le_of_ble_eq_true rfl, Nat.le_of_ble_eq_true rfl⟩) hK hP hD hS hA hZ (ci := 9) (q0 := 0) rfl rfl rfl hl.1 rfl (Nat.le_of_ble_eq_true rfl) dL_isShown_138 ⟨Nat.zero_le _, Nat.zero_le _⟩ (fun H locs hP hD hS => ?_)
                      refine lv_icmp_ne (tgt := 148) hx hb dL_isShown_141 (by decide) (fun c22 => ?_) (fun c22 => ?_)
                      · replace h := gx_f c22 h
                        exact hj148_14 u20 _ _ _ h hP hD hS (lv_sub hl [0, 1, 3, 4] rfl)
                      · replace h := gx_t c22 h
                        refine lv_iconst (v := 1) hx hb dL_isShown_144 (by decide) ?_
                        refine lv_goto (tgt := 149) hx hb dL_isShown_145 (by decide) ?_
                        exact hj149_12 (1 : Int32) u20 _ _ _ h hP hD hS (lv_sub hl [0, 1, 3, 4] rfl)
              refine hL114 _ (fun x2_114 w114 H locs ls h hP hD hS hl => ?_) FU z0_110 (0 : Int32) w110 _ _ _ h hP hD hS (lv_sub hl [2, 3, 1, 4, 0] rfl)
              obtain ⟨v23, ev23, h⟩ := gx_let h
              refine lv_iinc (v := v23) (lv' := [(3, .int v23), (0, .ref (ad 0)), (1, .int p0), (2, .int x2_114)]) hx hb dL_isShown_156 hl (k := 3) rfl (by rw [← ev23]; rfl) (by decide) rfl (fun ls hl => ?_)
              refine lv_goto (tgt := 31) hx hb dL_isShown_159 (by decide) ?_
              exact ih x2_114 v23 w114 _ _ _ h hP hD hS (lv_sub hl [1, 2, 3, 0] rfl)
            obtain ⟨j109_24, ej109_24, h⟩ := gx_let h
            have hj109_24 : ∀ (w109 : GS) (H : Heap) (locs : List Loc) (ls : Array Slot), j109_24 w109 = some (.inl r, w') → va_P D vwCl (wC cI cZ ad w109) H → va_D A (wC cI cZ ad w109) → va_S A s.heap H locs → lv_has ls 6 [(0, .ref (ad 0)), (1, .int p0), (3, .int x3_31)] → W p l e rL_isShown s m ([.ref (ad 0), .int p0] : List Value).toArray below meth c H locs 0 0 Q (F0 m 109 ls []) := by
              intro w109 H locs ls h hP hD hS hl
              subst ej109_24
              refine lv_iconst (v := 0) hx hb dL_isShown_109 (by decide) ?_
              exact hj110_10 (0 : Int32) w109 _ _ _ h hP hD hS (lv_sub hl [0, 1, 2] rfl)
            refine lv_icmp_ne (tgt := 109) hx hb dL_isShown_58 (by decide) (fun c25 => ?_) (fun c25 => ?_)
            · replace h := gx_f c25 h
              exact hj109_24 u8 _ _ _ h hP hD hS (lv_sub hl [1, 2, 4] rfl)
            · replace h := gx_t c25 h
              refine lv_iload hx hb dL_isShown_61 (lv_at hl 0 rfl) ?_
              refine lv_bipush (v := 40) hx hb dL_isShown_63 (by decide) ?_
              refine lv_icmp_lt (tgt := 109) hx hb dL_isShown_65 (by decide) (fun c26 => ?_) (fun c26 => ?_)
              · replace h := gx_t c26 h
                exact hj109_24 u8 _ _ _ h hP hD hS (lv_sub hl [1, 2, 4] rfl)
              · replace h := gx_f c26 h
                refine lv_iload hx hb dL_isShown_68 (lv_at hl 0 rfl) ?_
                refine lv_bipush (v := 120) hx hb dL_isShown_70 (by decide) ?_
                refine lv_icmp_gt (tgt := 109) hx hb dL_isShown_72 (by decide) (fun c27 => ?_) (fun c27 => ?_)
                · replace h := gx_t c27 h
                  exact hj109_24 u8 _ _ _ h hP hD hS (lv_sub hl [1, 2, 4] rfl)
                · replace h := gx_f c27 h
                  refine lv_iload hx hb dL_isShown_75 (lv_at hl 0 rfl) ?_
                  refine lv_bipush (v := 20) hx hb dL_isShown_77 (by decide) ?_
                  refine lv_irem hx hb dL_isShown_79 (by decide) ?_
                  refine lv_if_ne (tgt := 109) hx hb dL_isShown_80 (by decide) (fun c28 => ?_) (fun c28 => ?_)
                  · replace h := gx_f c28 h
                    exact hj109_24 u8 _ _ _ h hP hD hS (lv_sub hl [1, 2, 4] rfl)
                  · replace h := gx_t c28 h
                    refine lv_iload_n hx hb dL_isShown_83 rfl (lv_at hl 4 rfl) ?_
                    refine lv_bipush (v := 11) hx hb dL_isShown_84 (by decide) ?_
                    obtain ⟨j105_29, ej105_29, h⟩ := gx_let h
                    have hj105_29 : ∀ (w105 : GS) (H : Heap) (locs : List Loc) (ls : Array Slot), j105_29 w105 = some (.inl r, w') → va_P D vwCl (wC cI cZ ad w105) H → va_D A (wC cI cZ ad w105) → va_S A s.heap H locs → lv_has ls 6 [(0, .ref (ad 0)), (1, .int p0), (3, .int x3_31)] → W p l e rL_isShown s m ([.ref (ad 0), .int p0] : List Value).toArray below meth c H locs 0 0 Q (F0 m 105 ls []) := by
                      intro w105 H locs ls h hP hD hS hl
                      subst ej105_29
                      refine lv_iconst (v := 1) hx hb dL_isShown_105 (by decide) ?_
                      refine lv_goto (tgt := 110) hx hb dL_isShown_106 (by decide) ?_
                      exact hj110_10 (1 : Int32) w105 _ _ _ h hP hD hS (lv_sub hl [0, 1, 2] rfl)
                    refine lv_icmp_eq (tgt := 105) hx hb dL_isShown_86 (by decide) (fun c30 => ?_) (fun c30 => ?_)
                    · replace h := gx_t c30 h
                      exact hj105_29 u8 _ _ _ h hP hD hS (lv_sub hl [1, 2, 4] rfl)
                    · replace h := gx_f c30 h
                      refine lv_iload hx hb dL_isShown_89 (lv_at hl 0 rfl) ?_
                      refine lv_aload_n hx hb dL_isShown_91 rfl (lv_at hl 1 rfl) ?_
                      refine lv_iload_n hx hb dL_isShown_92 rfl (lv_at hl 4 rfl) ?_
                      refine lv_iconst (v := 1) hx hb dL_isShown_93 (by decide) ?_
                      refine lv_iadd hx hb dL_isShown_94 ?_
                      refine lv_iconst (v := 3) hx hb dL_isShown_95 (by decide) ?_
                      obtain ⟨y31, u32, hc33, h⟩ := gx_xr h
                      refine cc_iV (As := [.int (x3_31 + (1 : Int32)), .int (3 : Int32)]) (rest := [.int y4]) ⟨hx, hb, hml, hown, hts⟩ (k_X9_section l D cI cZ ad u8 (x3_31 + (1 : Int32)) (3 : Int32) hc33) (cwV 2 hts (gwV mw_625 mw_626 mw_627 mw_19 mw_628) rfl rfl rfl (by decide +kernel) ⟨Nat.le_of_ble_eq_true rfl, Nat.le_of_ble_eq_true rfl⟩) hK hP hD hS hA hZ (ci := 9) (q0 := 0) rfl rfl rfl hl.1 rfl (Nat.le_of_ble_eq_true rfl) dL_isShown_96 ⟨Nat.zero_le _, Nat.zero_le _⟩ (fun H locs hP hD hS => ?_)
                      refine lv_bipush (v := 20) hx hb dL_isShown_99 (by decide) ?_
                      refine lv_iadd hx hb dL_isShown_101 ?_
                      refine lv_icmp_gt (tgt := 109) hx hb dL_isShown_102 (by decide) (fun c34 => ?_) (fun c34 => ?_)
                      · replace h := gx_t c34 h
                        exact hj109_24 u32 _ _ _ h hP hD hS (lv_sub hl [1, 2, 4] rfl)
                      · replace h := gx_f c34 h
                        exact hj105_29 u32 _ _ _ h hP hD hS (lv_sub hl [1, 2, 4] rfl)
    refine hL31 _ (fun x2_31 w31 H locs ls h hP hD hS hl => ?_) FU z0_28 (0 : Int32) w28 _ _ _ h hP hD hS (lv_sub hl [2, 3, 1, 0] rfl)
    refine lv_iload_n hx hb dL_isShown_162 rfl (lv_at hl 0 rfl) ?_
    obtain ⟨bo, h⟩ := gx_bo h
    cases h
    exact cc_ret hx hb hr bo hQ hK hP hD hS rfl dL_isShown_163 hlocks
  obtain ⟨j23_35, ej23_35, h⟩ := gx_let h
  have hj23_35 : ∀ (w23 : GS) (H : Heap) (locs : List Loc) (ls : Array Slot), j23_35 w23 = some (.inl r, w') → va_P D vwCl (wC cI cZ ad w23) H → va_D A (wC cI cZ ad w23) → va_S A s.heap H locs → lv_has ls 6 [(0, .ref (ad 0)), (1, .int p0)] → W p l e rL_isShown s m ([.ref (ad 0), .int p0] : List Value).toArray below meth c H locs 0 0 Q (F0 m 23 ls []) := by
    intro w23 H locs ls h hP hD hS hl
    subst ej23_35
    refine lv_iconst (v := 1) hx hb dL_isShown_23 (by decide) ?_
    refine lv_goto (tgt := 28) hx hb dL_isShown_24 (by decide) ?_
    exact hj28_1 (1 : Int32) w23 _ _ _ h hP hD hS (lv_sub hl [0, 1] rfl)
  refine lv_icmp_lt (tgt := 23) hx hb dL_isShown_3 (by decide) (fun c36 => ?_) (fun c36 => ?_)
  · replace h := gx_t c36 h
    exact hj23_35 u _ _ _ h hP hD hS (lv_sub hl [0, 1] rfl)
  · replace h := gx_f c36 h
    refine lv_aload_n hx hb dL_isShown_6 rfl (lv_at hl 0 rfl) ?_
    refine lv_iload_n hx hb dL_isShown_7 rfl (lv_at hl 1 rfl) ?_
    refine lv_bipush (v := 60) hx hb dL_isShown_8 (by decide) ?_
    refine lv_isub hx hb dL_isShown_10 ?_
    refine lv_iconst (v := 0) hx hb dL_isShown_11 (by decide) ?_
    refine lv_iconst (v := 0) hx hb dL_isShown_12 (by decide) ?_
    refine lv_iconst (v := 5) hx hb dL_isShown_13 (by decide) ?_
    cases h

def rL_isRoad : Room := { frames := 6, cells := 0, slots := 0, locals := 134 }
set_option maxHeartbeats 4000000 in
set_option maxRecDepth 100000 in
theorem k_L_isRoad (l : Launch) (D : va_G) (cI cZ : ClassId) (ad : Nat → Nat) (u : GS) {r : Int32} {w' : GS} (h : g_L_isRoad u = some (.inl r, w')) : MI l yL_isRoad (wm yL_isRoad cL_isRoad 7 (some .boolean)) rL_isRoad D [(cI, .int), (cZ, .boolean)] (wC cI cZ ad u) (wC cI cZ ad w') [.ref (ad 0)] r := by
  intro sz
  refine Met.ofW (cc := cL_isRoad) (maxL := 7) (ret := (some .boolean)) (by decide) rfl ?_
  intro p e s m args below meth c s₁ B hml hv
  obtain ⟨rfl, hsz, hP, hK, hD0, hZ⟩ := hv
  have hx := B.exec
  have hb := B.bytes
  have hr := B.returns
  have hts : ∀ w ∈ Wall, w.before _ s = true := fun w hw => atoms_spec (ws := wm yL_isRoad cL_isRoad 7 (some .boolean)) B.pre w (List.mem_cons_of_mem _ hw)
  have hown : s.vm.findClass RL = some m.cls := findClass_of_methodNamed B.named
  have hlocks := B.notSynchronized
  subst hsz
  have hD := hD0.self (sz := s.heap.size)
  generalize hAe : va_A (wC cI cZ ad u) s.heap.size = A at hD hZ ⊢
  have hA : ∀ q : Nat, s.heap.size ≤ q → A q := fun q h => by rw [← hAe]; exact Or.inr h
  have hS : va_S A s.heap s.heap [] := va_S.rf
  have hl := lv_entry ([.ref (ad 0)]) (n := 7) (Nat.le_of_ble_eq_true rfl)
  rw [lg_entry_eq]
  generalize (lg_sl ([.ref (ad 0)]) ++ List.replicate (7 - (lg_sl ([.ref (ad 0)])).length) Slot.unset).toArray = ls at hl ⊢
  replace hl : lv_has ls 7 [(0, .ref (ad 0))] := hl
  refine w_gen (fun Q hQ => ?_)
  refine lv_iconst (v := 0) hx hb dL_isRoad_0 (by decide) ?_
  refine lv_istore_n (lv' := [(1, .int (0 : Int32)), (0, .ref (ad 0))]) hx hb dL_isRoad_1 rfl hl (by decide) rfl (fun ls hl => ?_)
  refine lv_aload_n hx hb dL_isRoad_2 rfl (lv_at hl 1 rfl) ?_
  obtain ⟨y1, hc2, h⟩ := gx_bind h
  refine cc_iV (As := []) (rest := []) ⟨hx, hb, hml, hown, hts⟩ (k_X9_isLawful l D cI cZ ad u hc2) (cwV 0 hts (gwV mw_392 mw_393 mw_394 mw_19 mw_395) rfl rfl rfl (by decide +kernel) ⟨Nat.le_of_ble_eq_true rfl, Nat.le_of_ble_eq_true rfl⟩) hK hP hD hS hA hZ (ci := 9) (q0 := 0) rfl rfl rfl hl.1 rfl (Nat.le_of_ble_eq_true rfl) dL_isRoad_3 ⟨Nat.zero_le _, Nat.zero_le _⟩ (fun H locs hP hD hS => ?_)
  obtain ⟨v3, ev3, h⟩ := gx_let h
  refine lv_topn ev3 ?_
  refine lv_istore_n (lv' := [(2, .int v3), (1, .int (0 : Int32)), (0, .ref (ad 0))]) hx hb dL_isRoad_6 rfl hl (by decide) rfl (fun ls hl => ?_)
  refine lv_iconst (v := 0) hx hb dL_isRoad_7 (by decide) ?_
  refine lv_istore_n (lv' := [(3, .int (0 : Int32)), (2, .int v3), (1, .int (0 : Int32)), (0, .ref (ad 0))]) hx hb dL_isRoad_8 rfl hl (by decide) rfl (fun ls hl => ?_)
  have hL9 : ∀ (k : Int32 → Int32 → GS → Option (g_X × GS)) (hk : ∀ (x1_9 : Int32) (x2_9 : Int32) (w9 : GS) (H : Heap) (locs : List Loc) (ls : Array Slot), k x1_9 x2_9 w9 = some (.inl r, w') → va_P D vwCl (wC cI cZ ad w9) H → va_D A (wC cI cZ ad w9) → va_S A s.heap H locs → lv_has ls 7 [(0, .ref (ad 0)), (1, .int x1_9), (2, .int x2_9)] → W p l e rL_isRoad s m ([.ref (ad 0)] : List Value).toArray below meth c H locs 0 0 Q (F0 m 153 ls [])) (n : Nat) (x1_9 : Int32) (x2_9 : Int32) (x3_9 : Int32) (w9 : GS) (H : Heap) (locs : List Loc) (ls : Array Slot), lp_L_isRoad_9 k n x1_9 x2_9 x3_9 w9 = some (.inl r, w') → va_P D vwCl (wC cI cZ ad w9) H → va_D A (wC cI cZ ad w9) → va_S A s.heap H locs → lv_has ls 7 [(0, .ref (ad 0)), (1, .int x1_9), (2, .int x2_9), (3, .int x3_9)] → W p l e rL_isRoad s m ([.ref (ad 0)] : List Value).toArray below meth c H locs 0 0 Q (F0 m 9 ls []) := by
    intro k hk n
    induction n with
    | zero =>
      intro x1_9 x2_9 x3_9 w9 H locs ls h
      rw [lp_L_isRoad_9] at h
      cases h
    | succ n ih =>
      intro x1_9 x2_9 x3_9 w9 H locs ls h hP hD hS hl
      rw [lp_L_isRoad_9] at h
      refine lv_iload_n hx hb dL_isRoad_9 rfl (lv_at hl 3 rfl) ?_
      refine lv_bipush (v := 12) hx hb dL_isRoad_10 (by decide) ?_
      refine lv_icmp_ge (tgt := 153) hx hb dL_isRoad_12 (by decide) (fun c4 => ?_) (fun c4 => ?_)
      · replace h := gx_t c4 h
        exact hk x1_9 x2_9 w9 _ _ _ h hP hD hS (lv_sub hl [0, 1, 2] rfl)
      · replace h := gx_f c4 h
        refine lv_iload_n hx hb dL_isRoad_15 rfl (lv_at hl 2 rfl) ?_
        refine lv_if_eq (tgt := 153) hx hb dL_isRoad_16 (by decide) (fun c5 => ?_) (fun c5 => ?_)
        · replace h := gx_t c5 h
          exact hk x1_9 x2_9 w9 _ _ _ h hP hD hS (lv_sub hl [0, 1, 2] rfl)
        · replace h := gx_f c5 h
          refine lv_iconst (v := 0) hx hb dL_isRoad_19 (by decide) ?_
          refine lv_istore (lv' := [(4, .int (0 : Int32)), (0, .ref (ad 0)), (1, .int x1_9), (2, .int x2_9), (3, .int x3_9)]) hx hb dL_isRoad_20 hl (by decide) rfl (fun ls hl => ?_)
          refine lv_iconst (v := 0) hx hb dL_isRoad_22 (by decide) ?_
          refine lv_istore (lv' := [(5, .int (0 : Int32)), (4, .int (0 : Int32)), (0, .ref (ad 0)), (1, .int x1_9), (2, .int x2_9), (3, .int x3_9)]) hx hb dL_isRoad_23 hl (by decide) rfl (fun ls hl => ?_)
          have hL25 : ∀ (k : Int32 → Int32 → GS → Option (g_X × GS)) (hk : ∀ (x1_25 : Int32) (x4_25 : Int32) (w25 : GS) (H : Heap) (locs : List Loc) (ls : Array Slot), k x1_25 x4_25 w25 = some (.inl r, w') → va_P D vwCl (wC cI cZ ad w25) H → va_D A (wC cI cZ ad w25) → va_S A s.heap H locs → lv_has ls 7 [(0, .ref (ad 0)), (1, .int x1_25), (3, .int x3_9), (4, .int x4_25)] → W p l e rL_isRoad s m ([.ref (ad 0)] : List Value).toArray below meth c H locs 0 0 Q (F0 m 67 ls [])) (n : Nat) (x1_25 : Int32) (x4_25 : Int32) (x5_25 : Int32) (w25 : GS) (H : Heap) (locs : List Loc) (ls : Array Slot), lp_L_isRoad_25 x3_9 k n x1_25 x4_25 x5_25 w25 = some (.inl r, w') → va_P D vwCl (wC cI cZ ad w25) H → va_D A (wC cI cZ ad w25) → va_S A s.heap H locs → lv_has ls 7 [(0, .ref (ad 0)), (1, .int x1_25), (3, .int x3_9), (4, .int x4_25), (5, .int x5_25)] → W p l e rL_isRoad s m ([.ref (ad 0)] : List Value).toArray below meth c H locs 0 0 Q (F0 m 25 ls []) := by
            intro k hk n
            induction n with
            | zero =>
              intro x1_25 x4_25 x5_25 w25 H locs ls h
              rw [lp_L_isRoad_25] at h
              cases h
            | succ n ih =>
              intro x1_25 x4_25 x5_25 w25 H locs ls h hP hD hS hl
              rw [lp_L_isRoad_25] at h
              refine lv_iload hx hb dL_isRoad_25 (lv_at hl 4 rfl) ?_
              refine lv_iconst (v := 4) hx hb dL_isRoad_27 (by decide) ?_
              refine lv_icmp_ge (tgt := 67) hx hb dL_isRoad_28 (by decide) (fun c6 => ?_) (fun c6 => ?_)
              · replace h := gx_t c6 h
                exact hk x1_25 x4_25 w25 _ _ _ h hP hD hS (lv_sub hl [0, 1, 2, 3] rfl)
              · replace h := gx_f c6 h
                refine lv_aload_n hx hb dL_isRoad_31 rfl (lv_at hl 0 rfl) ?_
                refine lv_iload_n hx hb dL_isRoad_32 rfl (lv_at hl 2 rfl) ?_
                refine lv_iload hx hb dL_isRoad_33 (lv_at hl 4 rfl) ?_
                obtain ⟨y7, u8, hc9, h⟩ := gx_xr h
                refine cc_iV (As := [.int x3_9, .int x5_25]) (rest := []) ⟨hx, hb, hml, hown, hts⟩ (k_X9_holds l D cI cZ ad w25 x3_9 x5_25 hc9) (cwV 2 hts (gwV mw_590 mw_591 mw_592 mw_19 mw_593) rfl rfl rfl (by decide +kernel) ⟨Nat.le_of_ble_eq_true rfl, Nat.le_of_ble_eq_true rfl⟩) hK hP hD hS hA hZ (ci := 9) (q0 := 0) rfl rfl rfl hl.1 rfl (Nat.le_of_ble_eq_true rfl) dL_isRoad_35 ⟨Nat.zero_le _, Nat.zero_le _⟩ (fun H locs hP hD hS => ?_)
                refine lv_istore (lv' := [(6, .int y7), (0, .ref (ad 0)), (1, .int x1_25), (3, .int x3_9), (4, .int x4_25), (5, .int x5_25)]) hx hb dL_isRoad_38 hl (by decide) rfl (fun ls hl => ?_)
                refine lv_iload_n hx hb dL_isRoad_40 rfl (lv_at hl 2 rfl) ?_
                refine lv_iload hx hb dL_isRoad_41 (lv_at hl 0 rfl) ?_
                refine lv_iadd hx hb dL_isRoad_43 ?_
                obtain ⟨v10, ev10, h⟩ := gx_let h
                refine lv_topn ev10 ?_
                refine lv_istore_n (lv' := [(1, .int v10), (6, .int y7), (0, .ref (ad 0)), (3, .int x3_9), (4, .int x4_25), (5, .int x5_25)]) hx hb dL_isRoad_44 rfl hl (by decide) rfl (fun ls hl => ?_)
                refine lv_iload hx hb dL_isRoad_45 (lv_at hl 1 rfl) ?_
                refine lv_iload hx hb dL_isRoad_47 (lv_at hl 4 rfl) ?_
                obtain ⟨j59_11, ej59_11, h⟩ := gx_let h
                have hj59_11 : ∀ (z0_59 : Int32) (H : Heap) (locs : List Loc) (ls : Array Slot), j59_11 z0_59 = some (.inl r, w') → va_P D vwCl (wC cI cZ ad u8) H → va_D A (wC cI cZ ad u8) → va_S A s.heap H locs → lv_has ls 7 [(0, .ref (ad 0)), (1, .int v10), (3, .int x3_9), (5, .int x5_25)] → W p l e rL_isRoad s m ([.ref (ad 0)] : List Value).toArray below meth c H locs 0 0 Q (F0 m 59 ls [.int z0_59]) := by
                  intro z0_59 H locs ls h hP hD hS hl
                  subst ej59_11
                  refine lv_istore (lv' := [(4, .int z0_59), (0, .ref (ad 0)), (1, .int v10), (3, .int x3_9), (5, .int x5_25)]) hx hb dL_isRoad_59 hl (by decide) rfl (fun ls hl => ?_)
                  obtain ⟨v12, ev12, h⟩ := gx_let h
                  refine lv_iinc (v := v12) (lv' := [(5, .int v12), (4, .int z0_59), (0, .ref (ad 0)), (1, .int v10), (3, .int x3_9)]) hx hb dL_isRoad_61 hl (k := 4) rfl (by rw [← ev12]; rfl) (by decide) rfl (fun ls hl => ?_)
                  refine lv_goto (tgt := 25) hx hb dL_isRoad_64 (by decide) ?_
                  exact ih v10 z0_59 v12 u8 _ _ _ h hP hD hS (lv_sub hl [2, 3, 4, 1, 0] rfl)
                refine lv_icmp_le (tgt := 57) hx hb dL_isRoad_49 (by decide) (fun c13 => ?_) (fun c13 => ?_)
                · replace h := gx_t c13 h
                  refine lv_iload hx hb dL_isRoad_57 (lv_at hl 4 rfl) ?_
                  exact hj59_11 x4_25 _ _ _ h hP hD hS (lv_sub hl [2, 0, 3, 5] rfl)
                · replace h := gx_f c13 h
                  refine lv_iload hx hb dL_isRoad_52 (lv_at hl 1 rfl) ?_
                  refine lv_goto (tgt := 59) hx hb dL_isRoad_54 (by decide) ?_
                  exact hj59_11 y7 _ _ _ h hP hD hS (lv_sub hl [2, 0, 3, 5] rfl)
          refine hL25 _ (fun x1_25 x4_25 w25 H locs ls h hP hD hS hl => ?_) FU x1_9 (0 : Int32) (0 : Int32) w9 _ _ _ h hP hD hS (lv_sub hl [2, 3, 5, 1, 0] rfl)
          refine lv_iload hx hb dL_isRoad_67 (lv_at hl 3 rfl) ?_
          refine lv_bipush (v := 20) hx hb dL_isRoad_69 (by decide) ?_
          obtain ⟨j146_14, ej146_14, h⟩ := gx_let h
          have hj146_14 : ∀ (z0_146 : Int32) (w146 : GS) (H : Heap) (locs : List Loc) (ls : Array Slot), j146_14 z0_146 w146 = some (.inl r, w') → va_P D vwCl (wC cI cZ ad w146) H → va_D A (wC cI cZ ad w146) → va_S A s.heap H locs → lv_has ls 7 [(0, .ref (ad 0)), (1, .int x1_25), (3, .int x3_9)] → W p l e rL_isRoad s m ([.ref (ad 0)] : List Value).toArray below meth c H locs 0 0 Q (F0 m 146 ls [.int z0_146]) := by
            intro z0_146 w146 H locs ls h hP hD hS hl
            subst ej146_14
            refine lv_istore_n (lv' := [(2, .int z0_146), (0, .ref (ad 0)), (1, .int x1_25), (3, .int x3_9)]) hx hb dL_isRoad_146 rfl hl (by decide) rfl (fun ls hl => ?_)
            obtain ⟨v15, ev15, h⟩ := gx_let h
            refine lv_iinc (v := v15) (lv' := [(3, .int v15), (2, .int z0_146), (0, .ref (ad 0)), (1, .int x1_25)]) hx hb dL_isRoad_147 hl (k := 3) rfl (by rw [← ev15]; rfl) (by decide) rfl (fun ls hl => ?_)
            refine lv_goto (tgt := 9) hx hb dL_isRoad_150 (by decide) ?_
            exact ih x1_25 z0_146 v15 w146 _ _ _ h hP hD hS (lv_sub hl [2, 3, 1, 0] rfl)
          obtain ⟨j145_16, ej145_16, h⟩ := gx_let h
          have hj145_16 : ∀ (w145 : GS) (H : Heap) (locs : List Loc) (ls : Array Slot), j145_16 w145 = some (.inl r, w') → va_P D vwCl (wC cI cZ ad w145) H → va_D A (wC cI cZ ad w145) → va_S A s.heap H locs → lv_has ls 7 [(0, .ref (ad 0)), (1, .int x1_25), (3, .int x3_9)] → W p l e rL_isRoad s m ([.ref (ad 0)] : List Value).toArray below meth c H locs 0 0 Q (F0 m 145 ls []) := by
            intro w145 H locs ls h hP hD hS hl
            subst ej145_16
            refine lv_iconst (v := 0) hx hb dL_isRoad_145 (by decide) ?_
            exact hj146_14 (0 : Int32) w145 _ _ _ h hP hD hS (lv_sub hl [0, 1, 2] rfl)
          refine lv_icmp_gt (tgt := 145) hx hb dL_isRoad_71 (by decide) (fun c17 => ?_) (fun c17 => ?_)
          · replace h := gx_t c17 h
            exact hj145_16 w25 _ _ _ h hP hD hS (lv_sub hl [0, 1, 2] rfl)
          · replace h := gx_f c17 h
            refine lv_aload_n hx hb dL_isRoad_74 rfl (lv_at hl 0 rfl) ?_
            refine lv_iload_n hx hb dL_isRoad_75 rfl (lv_at hl 2 rfl) ?_
            refine lv_iconst (v := 0) hx hb dL_isRoad_76 (by decide) ?_
            obtain ⟨y18, u19, hc20, h⟩ := gx_xr h
            refine cc_iV (As := [.int x3_9, .int (0 : Int32)]) (rest := []) ⟨hx, hb, hml, hown, hts⟩ (k_X9_section l D cI cZ ad w25 x3_9 (0 : Int32) hc20) (cwV 2 hts (gwV mw_625 mw_626 mw_627 mw_19 mw_628) rfl rfl rfl (by decide +kernel) ⟨Nat.le_of_ble_eq_true rfl, Nat.le_of_ble_eq_true rfl⟩) hK hP hD hS hA hZ (ci := 9) (q0 := 0) rfl rfl rfl hl.1 rfl (Nat.le_of_ble_eq_true rfl) dL_isRoad_77 ⟨Nat.zero_le _, Nat.zero_le _⟩ (fun H locs hP hD hS => ?_)
            refine lv_bipush (v := 120) hx hb dL_isRoad_80 (by decide) ?_
            refine lv_iconst (v := 5) hx hb dL_isRoad_82 (by decide) ?_
            refine lv_iload hx hb dL_isRoad_83 (lv_at hl 3 rfl) ?_
            refine lv_imul hx hb dL_isRoad_85 ?_
            refine lv_isub hx hb dL_isRoad_86 ?_
            refine lv_icmp_ne (tgt := 145) hx hb dL_isRoad_87 (by decide) (fun c21 => ?_) (fun c21 => ?_)
            · replace h := gx_f c21 h
              exact hj145_16 u19 _ _ _ h hP hD hS (lv_sub hl [0, 1, 2] rfl)
            · replace h := gx_t c21 h
              refine lv_aload_n hx hb dL_isRoad_90 rfl (lv_at hl 0 rfl) ?_
              refine lv_iload_n hx hb dL_isRoad_91 rfl (lv_at hl 2 rfl) ?_
              refine lv_iconst (v := 4) hx hb dL_isRoad_92 (by decide) ?_
              obtain ⟨y22, u23, hc24, h⟩ := gx_xr h
              refine cc_iV (As := [.int x3_9, .int (4 : Int32)]) (rest := []) ⟨hx, hb, hml, hown, hts⟩ (k_X9_section l D cI cZ ad u19 x3_9 (4 : Int32) hc24) (cwV 2 hts (gwV mw_625 mw_626 mw_627 mw_19 mw_628) rfl rfl rfl (by decide +kernel) ⟨Nat.le_of_ble_eq_true rfl, Nat.le_of_ble_eq_true rfl⟩) hK hP hD hS hA hZ (ci := 9) (q0 := 0) rfl rfl rfl hl.1 rfl (Nat.le_of_ble_eq_true rfl) dL_isRoad_93 ⟨Nat.zero_le _, Nat.zero_le _⟩ (fun H locs hP hD hS => ?_)
              refine lv_if_lt (tgt := 145) hx hb dL_isRoad_96 (by decide) (fun c25 => ?_) (fun c25 => ?_)
              · replace h := gx_t c25 h
                exact hj145_16 u23 _ _ _ h hP hD hS (lv_sub hl [0, 1, 2] rfl)
              · replace h := gx_f c25 h
                refine lv_aload_n hx hb dL_isRoad_99 rfl (lv_at hl 0 rfl) ?_
                refine lv_iload_n hx hb dL_isRoad_100 rfl (lv_at hl 2 rfl) ?_
                refine lv_iconst (v := 1) hx hb dL_isRoad_101 (by decide) ?_
                obtain ⟨y26, u27, hc28, h⟩ := gx_xr h
                refine cc_iV (As := [.int x3_9, .int (1 : Int32)]) (rest := []) ⟨hx, hb, hml, hown, hts⟩ (k_X9_section l D cI cZ ad u23 x3_9 (1 : Int32) hc28) (cwV 2 hts (gwV mw_625 mw_626 mw_627 mw_19 mw_628) rfl rfl rfl (by decide +kernel) ⟨Nat.le_of_ble_eq_true rfl, Nat.le_of_ble_eq_true rfl⟩) hK hP hD hS hA hZ (ci := 9) (q0 := 0) rfl rfl rfl hl.1 rfl (Nat.le_of_ble_eq_true rfl) dL_isRoad_102 ⟨Nat.zero_le _, Nat.zero_le _⟩ (fun H locs hP hD hS => ?_)
                refine lv_iconst (v := (-1)) hx hb dL_isRoad_105 (by decide) ?_
                refine lv_icmp_lt (tgt := 145) hx hb dL_isRoad_106 (by decide) (fun c29 => ?_) (fun c29 => ?_)
                · replace h := gx_t c29 h
                  exact hj145_16 u27 _ _ _ h hP hD hS (lv_sub hl [0, 1, 2] rfl)
                · replace h := gx_f c29 h
                  refine lv_aload_n hx hb dL_isRoad_109 rfl (lv_at hl 0 rfl) ?_
                  refine lv_iload_n hx hb dL_isRoad_110 rfl (lv_at hl 2 rfl) ?_
                  refine lv_iconst (v := 1) hx hb dL_isRoad_111 (by decide) ?_
                  obtain ⟨y30, u31, hc32, h⟩ := gx_xr h
                  refine cc_iV (As := [.int x3_9, .int (1 : Int32)]) (rest := []) ⟨hx, hb, hml, hown, hts⟩ (k_X9_section l D cI cZ ad u27 x3_9 (1 : Int32) hc32) (cwV 2 hts (gwV mw_625 mw_626 mw_627 mw_19 mw_628) rfl rfl rfl (by decide +kernel) ⟨Nat.le_of_ble_eq_true rfl, Nat.le_of_ble_eq_true rfl⟩) hK hP hD hS hA hZ (ci := 9) (q0 := 0) rfl rfl rfl hl.1 rfl (Nat.le_of_ble_eq_true rfl) dL_isRoad_112 ⟨Nat.zero_le _, Nat.zero_le _⟩ (fun H locs hP hD hS => ?_)
                  refine lv_bipush (v := 120) hx hb dL_isRoad_115 (by decide) ?_
                  refine lv_icmp_gt (tgt := 145) hx hb dL_isRoad_117 (by decide) (fun c33 => ?_) (fun c33 => ?_)
                  · replace h := gx_t c33 h
                    exact hj145_16 u31 _ _ _ h hP hD hS (lv_sub hl [0, 1, 2] rfl)
                  · replace h := gx_f c33 h
                    refine lv_aload_n hx hb dL_isRoad_120 rfl (lv_at hl 0 rfl) ?_
                    refine lv_iload_n hx hb dL_isRoad_121 rfl (lv_at hl 2 rfl) ?_
                    refine lv_iconst (v := 2) hx hb dL_isRoad_122 (by decide) ?_
                    obtain ⟨y34, u35, hc36, h⟩ := gx_xr h
                    refine cc_iV (As := [.int x3_9, .int (2 : Int32)]) (rest := []) ⟨hx, hb, hml, hown, hts⟩ (k_X9_section l D cI cZ ad u31 x3_9 (2 : Int32) hc36) (cwV 2 hts (gwV mw_625 mw_626 mw_627 mw_19 mw_628) rfl rfl rfl (by decide +kernel) ⟨Nat.le_of_ble_eq_true rfl, Nat.le_of_ble_eq_true rfl⟩) hK hP hD hS hA hZ (ci := 9) (q0 := 0) rfl rfl rfl hl.1 rfl (Nat.le_of_ble_eq_true rfl) dL_isRoad_123 ⟨Nat.zero_le _, Nat.zero_le _⟩ (fun H locs hP hD hS => ?_)
                    refine lv_iconst (v := (-1)) hx hb dL_isRoad_126 (by decide) ?_
                    refine lv_icmp_lt (tgt := 145) hx hb dL_isRoad_127 (by decide) (fun c37 => ?_) (fun c37 => ?_)
                    · replace h := gx_t c37 h
                      exact hj145_16 u35 _ _ _ h hP hD hS (lv_sub hl [0, 1, 2] rfl)
                    · replace h := gx_f c37 h
                      refine lv_aload_n hx hb dL_isRoad_130 rfl (lv_at hl 0 rfl) ?_
                      refine lv_iload_n hx hb dL_isRoad_131 rfl (lv_at hl 2 rfl) ?_
                      refine lv_iconst (v := 2) hx hb dL_isRoad_132 (by decide) ?_
                      obtain ⟨y38, u39, hc40, h⟩ := gx_xr h
                      refine cc_iV (As := [.int x3_9, .int (2 : Int32)]) (rest := []) ⟨hx, hb, hml, hown, hts⟩ (k_X9_section l D cI cZ ad u35 x3_9 (2 : Int32) hc40) (cwV 2 hts (gwV mw_625 mw_626 mw_627 mw_19 mw_628) rfl rfl rfl (by decide +kernel) ⟨Nat.le_of_ble_eq_true rfl, Nat.le_of_ble_eq_true rfl⟩) hK hP hD hS hA hZ (ci := 9) (q0 := 0) rfl rfl rfl hl.1 rfl (Nat.le_of_ble_eq_true rfl) dL_isRoad_133 ⟨Nat.zero_le _, Nat.zero_le _⟩ (fun H locs hP hD hS => ?_)
                      refine lv_bipush (v := 120) hx hb dL_isRoad_136 (by decide) ?_
                      refine lv_icmp_gt (tgt := 145) hx hb dL_isRoad_138 (by decide) (fun c41 => ?_) (fun c41 => ?_)
                      · replace h := gx_t c41 h
                        exact hj145_16 u39 _ _ _ h hP hD hS (lv_sub hl [0, 1, 2] rfl)
                      · replace h := gx_f c41 h
                        refine lv_iconst (v := 1) hx hb dL_isRoad_141 (by decide) ?_
                        refine lv_goto (tgt := 146) hx hb dL_isRoad_142 (by decide) ?_
                        exact hj146_14 (1 : Int32) u39 _ _ _ h hP hD hS (lv_sub hl [0, 1, 2] rfl)
  refine hL9 _ (fun x1_9 x2_9 w9 H locs ls h hP hD hS hl => ?_) FU (0 : Int32) v3 (0 : Int32) y1.2 _ _ _ h hP hD hS (lv_sub hl [3, 2, 1, 0] rfl)
  refine lv_iload_n hx hb dL_isRoad_153 rfl (lv_at hl 2 rfl) ?_
  refine lv_if_eq (tgt := 170) hx hb dL_isRoad_154 (by decide) (fun c42 => ?_) (fun c42 => ?_)
  · replace h := gx_t c42 h
    refine lv_iconst (v := 0) hx hb dL_isRoad_170 (by decide) ?_
    cases h
    exact cc_ret hx hb hr rfl hQ hK hP hD hS rfl dL_isRoad_171 hlocks
  · replace h := gx_f c42 h
    refine lv_iload_n hx hb dL_isRoad_157 rfl (lv_at hl 1 rfl) ?_
    refine lv_aload_n hx hb dL_isRoad_158 rfl (lv_at hl 0 rfl) ?_
    refine lv_iconst (v := 1) hx hb dL_isRoad_159 (by decide) ?_
    obtain ⟨y43, u44, hc45, h⟩ := gx_xr h
    refine cc_iV (As := [.int (1 : Int32)]) (rest := [.int x1_9]) ⟨hx, hb, hml, hown, hts⟩ (k_X9_vehicles l D cI cZ ad w9 (1 : Int32) hc45) (cwV 1 hts (gwV mw_689 mw_690 mw_691 mw_19 mw_692) rfl rfl rfl (by decide +kernel) ⟨Nat.le_of_ble_eq_true rfl, Nat.le_of_ble_eq_true rfl⟩) hK hP hD hS hA hZ (ci := 9) (q0 := 0) rfl rfl rfl hl.1 rfl (Nat.le_of_ble_eq_true rfl) dL_isRoad_160 ⟨Nat.zero_le _, Nat.zero_le _⟩ (fun H locs hP hD hS => ?_)
    refine lv_icmp_ne (tgt := 170) hx hb dL_isRoad_163 (by decide) (fun c46 => ?_) (fun c46 => ?_)
    · replace h := gx_f c46 h
      refine lv_iconst (v := 0) hx hb dL_isRoad_170 (by decide) ?_
      cases h
      exact cc_ret hx hb hr rfl hQ hK hP hD hS rfl dL_isRoad_171 hlocks
    · replace h := gx_t c46 h
      refine lv_iconst (v := 1) hx hb dL_isRoad_166 (by decide) ?_
      refine lv_goto (tgt := 171) hx hb dL_isRoad_167 (by decide) ?_
      cases h
      exact cc_ret hx hb hr rfl hQ hK hP hD hS rfl dL_isRoad_171 hlocks
end
section
def rL_stop : Room := { frames := 4, cells := 0, slots := 0, locals := 86 }
def rx_L_stop : Room := { frames := 10, cells := 1, slots := 6, locals := 174 }
set_option maxHeartbeats 4000000 in
set_option maxRecDepth 100000 in
theorem k0_L_stop (l : Launch) (D : va_G) (cI cZ : ClassId) (ad : Nat → Nat) (u : GS) (p0 p1 : Int32) {r : Int32} {w' : GS} (h : g_X9_stop u p0 p1 = some (.inl r, w')) : MZ l yL_stop (wmH yL_stop cL_stop 4 (some .boolean) [(0, 6, 9, 33)]) rL_stop D [(cI, .int), (cZ, .boolean)] (wC cI cZ ad u) (wC cI cZ ad w') [.ref (ad 0), .int p0, .int p1] 1 0 0 0 := by
  intro sz
  refine va_MetW (cc := cL_stop) (maxL := 4) (ret := some .boolean) (hh := [(0, 6, 9, 33)]) (by decide) rfl ?_
  intro p e s m args below meth c s₁ B hml hv
  obtain ⟨rfl, hsz, hP, hK, hD0, hZ⟩ := hv
  have hx := B.exec
  have hb := B.bytes
  have hr := B.returns
  have hts0 := atoms_spec (ws := wmH yL_stop cL_stop 4 (some .boolean) [(0, 6, 9, 33)]) B.pre
  have hts : ∀ w ∈ Wall, w.before _ s = true := fun w hw => hts0 w (List.mem_cons_of_mem _ hw)
  have hown : s.vm.findClass RL = some m.cls := findClass_of_methodNamed B.named
  have hlocks := B.notSynchronized
  subst hsz
  have hD := hD0.self (sz := s.heap.size)
  generalize hAe : va_A (wC cI cZ ad u) s.heap.size = A at hD hZ ⊢
  have hA : ∀ q : Nat, s.heap.size ≤ q → A q := fun q h => by rw [← hAe]; exact Or.inr h
  have hS : va_S A s.heap s.heap [] := va_S.rf
  have hl := lv_entry ([.ref (ad 0), .int p0, .int p1]) (n := 4) (Nat.le_of_ble_eq_true rfl)
  rw [lg_entry_eq]
  generalize (lg_sl ([.ref (ad 0), .int p0, .int p1]) ++ List.replicate (4 - (lg_sl ([.ref (ad 0), .int p0, .int p1])).length) Slot.unset).toArray = ls at hl ⊢
  replace hl : lv_has ls 4 [(0, .ref (ad 0)), (1, .int p0), (2, .int p1)] := hl
  refine w_gen (fun Q hQ => ?_)
  refine lv_aload_n hx hb dL_stop_0 rfl (lv_at hl 0 rfl) ?_
  refine lv_iload_n hx hb dL_stop_1 rfl (lv_at hl 1 rfl) ?_
  refine lv_iload_n hx hb dL_stop_2 rfl (lv_at hl 2 rfl) ?_
  refine cc_vV (As := [.int p0, .int p1]) (rest := []) ⟨hx, hb, hml, hown, hts⟩ (k_X9_stop l D cI cZ ad u p0 p1 h) (cwV 2 hts (gwV mw_572 mw_573 mw_574 mw_19 mw_575) rfl rfl rfl (by decide +kernel) ⟨(Nat.le_of_ble_eq_true rfl), (Nat.le_of_ble_eq_true rfl)⟩) hK hP hD hS hA hZ (ci := 9) (q0 := 0) rfl rfl rfl hl.1 rfl (Nat.le_of_ble_eq_true rfl) dL_stop_3 ⟨Nat.zero_le _, Nat.zero_le _⟩ (fun H locs hP hD hS => ?_)
  refine lv_goto (tgt := 12) hx hb dL_stop_6 (by decide) ?_
  refine lv_iconst (v := 1) hx hb dL_stop_12 (by decide) ?_
  exact cc_retZ hx hb hr rfl hQ hK hP hD hS hS.1 rfl dL_stop_13 hlocks
set_option maxHeartbeats 4000000 in
set_option maxRecDepth 100000 in
theorem kx_L_stop (l : Launch) (hl0 : l.stackTraces = false) (D : va_G) (cI cZ : ClassId) (ad : Nat → Nat) (u : GS) (p0 p1 : Int32) {w' : GS} (h : g_X9_stop u p0 p1 = some (.inr "java/lang/IllegalStateException", w')) : MZ l yL_stop (wmH yL_stop cL_stop 4 (some .boolean) [(0, 6, 9, 33)]) rx_L_stop D [(cI, .int), (cZ, .boolean)] (wC cI cZ ad u) (wC cI cZ ad w') [.ref (ad 0), .int p0, .int p1] 0 1 6 1 := by
  intro sz
  refine va_MetW (cc := cL_stop) (maxL := 4) (ret := some .boolean) (hh := [(0, 6, 9, 33)]) (by decide) rfl ?_
  intro p e s m args below meth c s₁ B hml hv
  obtain ⟨rfl, hsz, hP, hK, hD0, hZ⟩ := hv
  have hx := B.exec
  have hb := B.bytes
  have hr := B.returns
  have hts0 := atoms_spec (ws := wmH yL_stop cL_stop 4 (some .boolean) [(0, 6, 9, 33)]) B.pre
  have hts : ∀ w ∈ Wall, w.before _ s = true := fun w hw => hts0 w (List.mem_cons_of_mem _ hw)
  have hown : s.vm.findClass RL = some m.cls := findClass_of_methodNamed B.named
  have hlocks := B.notSynchronized
  subst hsz
  have hD := hD0.self (sz := s.heap.size)
  generalize hAe : va_A (wC cI cZ ad u) s.heap.size = A at hD hZ ⊢
  have hA : ∀ q : Nat, s.heap.size ≤ q → A q := fun q h => by rw [← hAe]; exact Or.inr h
  have hS : va_S A s.heap s.heap [] := va_S.rf
  have hT := vx_table (x := yL_stop) B (hts0 _ List.mem_cons_self)
  have hl := lv_entry ([.ref (ad 0), .int p0, .int p1]) (n := 4) (Nat.le_of_ble_eq_true rfl)
  rw [lg_entry_eq]
  generalize (lg_sl ([.ref (ad 0), .int p0, .int p1]) ++ List.replicate (4 - (lg_sl ([.ref (ad 0), .int p0, .int p1])).length) Slot.unset).toArray = ls at hl ⊢
  replace hl : lv_has ls 4 [(0, .ref (ad 0)), (1, .int p0), (2, .int p1)] := hl
  refine w_gen (fun Q hQ => ?_)
  refine lv_aload_n hx hb dL_stop_0 rfl (lv_at hl 0 rfl) ?_
  refine lv_iload_n hx hb dL_stop_1 rfl (lv_at hl 1 rfl) ?_
  refine lv_iload_n hx hb dL_stop_2 rfl (lv_at hl 2 rfl) ?_
  refine cX_vV (As := [.int p0, .int p1]) (rest := []) ⟨hx, hb, hml, hown, hts⟩ (kx_X9_stop l hl0 D cI cZ ad u p0 p1 h) (cwV 2 hts (gwV mw_572 mw_573 mw_574 mw_19 mw_575) rfl rfl rfl (by decide +kernel) ⟨(Nat.le_of_ble_eq_true rfl), (Nat.le_of_ble_eq_true rfl)⟩) hK hP hD hS hA hZ (ci := 9) (q0 := 0) rfl rfl rfl hl.1 rfl (Nat.le_of_ble_eq_true rfl) dL_stop_3 ⟨(Nat.le_of_ble_eq_true rfl), (Nat.le_of_ble_eq_true rfl)⟩ (fun ce q9 H locs hP hD hS hz h1 h2 h3 => ?_)
  refine vx_catch (name := "java/lang/IllegalStateException") hown [] ⟨0, 6, 9, 33⟩ [] hT (fun _ h => absurd h List.not_mem_nil) (by decide) (by decide) (hts _ mw_501) (va_Nw.use rfl (hZ.2.2.2.2.2.2.2.2.2.1 "java/lang/IllegalStateException" (by decide +kernel))) h1 h2 h3 ?_
  refine lv_astore_n (lv' := [(3, .ref q9), (0, .ref (ad 0)), (1, .int p0), (2, .int p1)]) hx hb dL_stop_9 rfl hl (by decide) rfl (fun ls hl => ?_)
  refine lv_iconst (v := 0) hx hb dL_stop_10 (by decide) ?_
  exact cc_retZ hx hb hr rfl hQ hK hP hD hS hz rfl dL_stop_11 hlocks
def rL_draw : Room := { frames := 0, cells := 0, slots := 0, locals := 0 }
set_option maxHeartbeats 4000000 in
set_option maxRecDepth 100000 in
theorem k_L_draw (l : Launch) (b L : Nat) (xs : Nat → Int32) (k res : Int32) (hi : vp_in k L) (hk : ¬ Int32.ofNat L ≤ k) (hres : res = xs k.toNatClampNeg &&& 2147483647) : MDr l rL_draw b L xs k res := by
  intro sz
  refine Met.ofW (cc := cL_draw) (maxL := 2) (ret := some .int) (by decide) rfl ?_
  intro p e s m args below meth c s₁ B hml hv
  obtain ⟨rfl, hsz, hX⟩ := hv
  have hx := B.exec
  have hb := B.bytes
  have hr := B.returns
  have hts : ∀ w ∈ Wall, w.before _ s = true := fun w hw => atoms_spec (ws := wm yL_draw cL_draw 2 (some .int)) B.pre w (List.mem_cons_of_mem _ hw)
  have hown : s.vm.findClass RL = some m.cls := findClass_of_methodNamed B.named
  have hlocks := B.notSynchronized
  subst hsz
  have hbl : b < s.heap.size := (Array.getElem?_eq_some_iff.mp hX.choose_spec.1).1
  have hbA : ¬ (fun q : Nat => s.heap.size ≤ q) b := Nat.not_le.mpr hbl
  have hS : va_S (fun q : Nat => s.heap.size ≤ q) s.heap s.heap [] := va_S.rf
  have hl := lv_entry ([.ref b, .int k]) (n := 2) (Nat.le_of_ble_eq_true rfl)
  rw [lg_entry_eq]
  generalize (lg_sl ([.ref b, .int k]) ++ List.replicate (2 - (lg_sl ([.ref b, .int k])).length) Slot.unset).toArray = ls at hl ⊢
  replace hl : lv_has ls 2 [(0, .ref b), (1, .int k)] := hl
  refine w_gen (fun Q hQ => ?_)
  refine lv_iload_n hx hb dL_draw_0 rfl (lv_at hl 1 rfl) ?_
  refine lv_aload_n hx hb dL_draw_1 rfl (lv_at hl 0 rfl) ?_
  refine va_slen hx hb hX hbl hbA hS dL_draw_2 ?_
  refine lv_icmp_ge (tgt := 15) hx hb dL_draw_3 (by decide) (fun c9 => absurd c9 hk) (fun _ => ?_)
  refine lv_aload_n hx hb dL_draw_6 rfl (lv_at hl 0 rfl) ?_
  refine lv_iload_n hx hb dL_draw_7 rfl (lv_at hl 1 rfl) ?_
  refine va_sld hx hb hX hbl hbA hS hi dL_draw_8 ?_
  refine lv_ldc (v := 2147483647) hx hb hown (hts _ mw_485) dL_draw_9 ?_
  refine lv_iand hx hb dL_draw_11 ?_
  refine lv_goto (tgt := 24) hx hb dL_draw_12 (by decide) ?_
  subst hQ
  exact W.zret hx hb hr rfl (fun t ht hW => ⟨⟨_, (), rfl, hres, trivial⟩, hS.F ht⟩) hS.2.2 dL_draw_24 hlocks
def rL_step : Room := { frames := 11, cells := 2, slots := 12, locals := 197 }
set_option maxHeartbeats 4000000 in
set_option maxRecDepth 100000 in
theorem kA_L_step (l : Launch) (hl0 : l.stackTraces = false) (D : va_G) (cI cZ : ClassId) (ad : Nat → Nat) (o : Nat) (f : Nat → Int32) {u u1 u2 : GS} {r : Int32} (h1 : g_X9_stop u 5 1 = some (.inl r, u1)) (h2 : g_X9_stop u1 5 1 = some (.inr "java/lang/IllegalStateException", u2)) : MZ l yL_step (wm yL_step cL_step 18 (some .boolean)) rL_step D [(cI, .int), (cZ, .boolean)] (wD cI cZ ad o f u) (wD cI cZ ad o f u2) [.ref (ad 0), .ref o, .int 5, .int 5, .int 5] 1 2 12 1 := by
  intro sz
  refine Met.ofW (cc := cL_step) (maxL := 18) (ret := some .boolean) (by decide) rfl ?_
  intro p e s m args below meth c s₁ B hml hv
  obtain ⟨rfl, hsz, hP, hK, hD0, hZ⟩ := hv
  have hx := B.exec
  have hb := B.bytes
  have hr := B.returns
  have hts0 := atoms_spec (ws := wm yL_step cL_step 18 (some .boolean)) B.pre
  have hts : ∀ w ∈ Wall, w.before _ s = true := fun w hw => hts0 w (List.mem_cons_of_mem _ hw)
  have hown : s.vm.findClass RL = some m.cls := findClass_of_methodNamed B.named
  have hlocks := B.notSynchronized
  subst hsz
  have hD := hD0.self (sz := s.heap.size)
  generalize hAe : va_A (wD cI cZ ad o f u) s.heap.size = A at hD hZ ⊢
  have hA : ∀ q : Nat, s.heap.size ≤ q → A q := fun q h => by rw [← hAe]; exact Or.inr h
  have hS : va_S A s.heap s.heap [] := va_S.rf
  have hl := lv_entry ([.ref (ad 0), .ref o, .int 5, .int 5, .int 5]) (n := 18) (Nat.le_of_ble_eq_true rfl)
  rw [lg_entry_eq]
  generalize (lg_sl ([.ref (ad 0), .ref o, .int 5, .int 5, .int 5]) ++ List.replicate (18 - (lg_sl ([.ref (ad 0), .ref o, .int 5, .int 5, .int 5])).length) Slot.unset).toArray = ls at hl ⊢
  replace hl : lv_has ls 18 [(0, .ref (ad 0)), (1, .ref o), (2, .int 5), (3, .int 5), (4, .int 5)] := hl
  refine w_gen (fun Q hQ => ?_)
  refine lv_iload_n hx hb dL_step_0 rfl (lv_at hl 3 rfl) ?_
  refine lv_bipush (v := 12) hx hb dL_step_1 (by decide) ?_
  refine lv_irem hx hb dL_step_3 (by decide) ?_
  refine lv_topn (x := (5 - 5 / 12 * 12)) (y := 5) (by decide +kernel) ?_
  refine lv_istore (lv' := [(5, .int 5), (0, .ref (ad 0)), (1, .ref o), (2, .int 5), (3, .int 5), (4, .int 5)]) hx hb dL_step_4 hl (by decide) rfl (fun ls hl => ?_)
  refine lv_iload hx hb dL_step_6 (lv_at hl 5 rfl) ?_
  refine lv_iconst (v := 4) hx hb dL_step_8 (by decide) ?_
  refine lv_irem hx hb dL_step_9 (by decide) ?_
  refine lv_topn (x := (5 - 5 / 4 * 4)) (y := 1) (by decide +kernel) ?_
  refine lv_istore (lv' := [(6, .int 1), (5, .int 5), (0, .ref (ad 0)), (1, .ref o), (2, .int 5), (3, .int 5), (4, .int 5)]) hx hb dL_step_10 hl (by decide) rfl (fun ls hl => ?_)
  refine lv_iload_n hx hb dL_step_12 rfl (lv_at hl 4 rfl) ?_
  refine lv_bipush (v := 28) hx hb dL_step_13 (by decide) ?_
  refine lv_irem hx hb dL_step_15 (by decide) ?_
  refine lv_topn (x := (5 - 5 / 28 * 28)) (y := 5) (by decide +kernel) ?_
  refine lv_tableIn (tgt := 161) (off := 145) hx hb dL_step_16 (by decide) (by decide) (by decide) (by decide) ?_
  refine lv_aload_n hx hb dL_step_161 rfl (lv_at hl 2 rfl) ?_
  refine lv_iload hx hb dL_step_162 (lv_at hl 1 rfl) ?_
  refine lv_iload hx hb dL_step_164 (lv_at hl 0 rfl) ?_
  refine cc_iSHZ (As := [.ref (ad 0), .int 5, .int 1]) (rest := []) (wr := [(o, .inl (cI, 4, .inl f))]) ⟨hx, hb, hml, hown, hts⟩ (k0_L_stop l D cI cZ ad u 5 1 h1) (vx_cwSW 3 hts (gwSH mw_569 mw_570 mw_18 mw_571) rfl rfl rfl (by decide +kernel) ⟨(Nat.le_of_ble_eq_true rfl), (Nat.le_of_ble_eq_true rfl)⟩) hK hP hD hS hA hZ [1, 2, 3, 4, 5, 6, 7, 8, 9, 10, 11, 12, 13, 14, 15, 16, 17, 18, 19, 20, 21, 22, 23, 24, 25, 26, 27, 28, 29, 30, 31, 32, 33, 34, 35] [0] rfl rfl (by decide) rfl (by decide) (by decide) rfl hl.1 rfl (Nat.le_of_ble_eq_true rfl) dL_step_166 ⟨(Nat.le_of_ble_eq_true rfl), (Nat.le_of_ble_eq_true rfl)⟩ (fun H1 locs hP hD hS hz => ?_)
  replace hP : va_P D vwCl (wD cI cZ ad o f u1) H1 := hP
  replace hD : va_D A (wD cI cZ ad o f u1) := hD
  have hN : s.heap.size + 0 ≤ H1.size := hz
  refine lv_istore (lv' := [(7, .int 1), (6, .int 1), (5, .int 5), (0, .ref (ad 0)), (1, .ref o), (2, .int 5), (3, .int 5), (4, .int 5)]) hx hb dL_step_169 hl (by decide) rfl (fun ls hl => ?_)
  refine lv_aload_n hx hb dL_step_171 rfl (lv_at hl 4 rfl) ?_
  refine lv_iconst (v := 3) hx hb dL_step_172 (by decide) ?_
  refine lv_iload hx hb dL_step_173 (lv_at hl 0 rfl) ?_
  refine lv_if_eq (tgt := 187) hx hb dL_step_175 (by decide) (fun c9 => absurd c9 (by decide)) (fun _ => ?_)
  refine lv_iload hx hb dL_step_178 (lv_at hl 1 rfl) ?_
  refine lv_if_ne (tgt := 187) hx hb dL_step_180 (by decide) (fun _ => ?_) (fun c9 => absurd c9 (by decide))
  refine lv_aload_n hx hb dL_step_187 rfl (lv_at hl 4 rfl) ?_
  refine lv_iconst (v := 3) hx hb dL_step_188 (by decide) ?_
  refine va_iald (D := D) hx hb hK hP 0 0 rfl rfl (by unfold vp_in; decide) dL_step_189 ?_
  refine va_iastM hx hb hK hP hD hS 0 0 rfl rfl (by unfold vp_in; decide) dL_step_190 (fun H2 locs hP hD hS hz => ?_)
  rw [upd_id] at hP hD
  replace hP : va_P D vwCl (wD cI cZ ad o f u1) H2 := hP
  replace hD : va_D A (wD cI cZ ad o f u1) := hD
  replace hN : s.heap.size + 0 ≤ H2.size := by rw [hz]; exact hN
  refine lv_aload_n hx hb dL_step_191 rfl (lv_at hl 3 rfl) ?_
  refine lv_iload hx hb dL_step_192 (lv_at hl 2 rfl) ?_
  refine lv_iload hx hb dL_step_194 (lv_at hl 1 rfl) ?_
  refine cc_iSHZ (As := [.ref (ad 0), .int 5, .int 1]) (rest := []) (wr := [(o, .inl (cI, 4, .inl f))]) ⟨hx, hb, hml, hown, hts⟩ (kx_L_stop l hl0 D cI cZ ad u1 5 1 h2) (vx_cwSW 3 hts (gwSH mw_569 mw_570 mw_18 mw_571) rfl rfl rfl (by decide +kernel) ⟨(Nat.le_of_ble_eq_true rfl), (Nat.le_of_ble_eq_true rfl)⟩) hK hP hD hS hA hZ [1, 2, 3, 4, 5, 6, 7, 8, 9, 10, 11, 12, 13, 14, 15, 16, 17, 18, 19, 20, 21, 22, 23, 24, 25, 26, 27, 28, 29, 30, 31, 32, 33, 34, 35] [0] rfl rfl (by decide) rfl (by decide) (by decide) rfl hl.1 rfl (Nat.le_of_ble_eq_true rfl) dL_step_196 ⟨(Nat.le_of_ble_eq_true rfl), (Nat.le_of_ble_eq_true rfl)⟩ (fun H3 locs hP hD hS hz => ?_)
  replace hP : va_P D vwCl (wD cI cZ ad o f u2) H3 := hP
  replace hD : va_D A (wD cI cZ ad o f u2) := hD
  replace hN : s.heap.size + 1 ≤ H3.size := by omega
  refine lv_if_ne (tgt := 231) hx hb dL_step_199 (by decide) (fun c9 => absurd rfl c9) (fun _ => ?_)
  refine lv_iload hx hb dL_step_202 (lv_at hl 1 rfl) ?_
  refine lv_if_gt (tgt := 227) hx hb dL_step_204 (by decide) (fun _ => ?_) (fun c9 => absurd (by decide) c9)
  refine lv_iconst (v := 1) hx hb dL_step_227 (by decide) ?_
  refine lv_goto (tgt := 232) hx hb dL_step_228 (by decide) ?_
  refine W.widen (k := 2) (n := 12) (Nat.le_of_ble_eq_true rfl) (Nat.le_of_ble_eq_true rfl) ?_
  exact cc_retZ hx hb hr rfl hQ hK hP hD hS hN rfl dL_step_232 hlocks
set_option maxHeartbeats 4000000 in
set_option maxRecDepth 100000 in
theorem kB_L_step (l : Launch) (hl0 : l.stackTraces = false) (D : va_G) (cI cZ : ClassId) (ad : Nat → Nat) (o : Nat) (f : Nat → Int32) {u u1 u2 : GS} (h1 : g_X9_stop u 5 1 = some (.inr "java/lang/IllegalStateException", u1)) (h2 : g_X9_stop u1 5 1 = some (.inr "java/lang/IllegalStateException", u2)) : MZ l yL_step (wm yL_step cL_step 18 (some .boolean)) rL_step D [(cI, .int), (cZ, .boolean)] (wD cI cZ ad o f u) (wD cI cZ ad o f u2) [.ref (ad 0), .ref o, .int 5, .int 5, .int 5] 1 2 12 2 := by
  intro sz
  refine Met.ofW (cc := cL_step) (maxL := 18) (ret := some .boolean) (by decide) rfl ?_
  intro p e s m args below meth c s₁ B hml hv
  obtain ⟨rfl, hsz, hP, hK, hD0, hZ⟩ := hv
  have hx := B.exec
  have hb := B.bytes
  have hr := B.returns
  have hts0 := atoms_spec (ws := wm yL_step cL_step 18 (some .boolean)) B.pre
  have hts : ∀ w ∈ Wall, w.before _ s = true := fun w hw => hts0 w (List.mem_cons_of_mem _ hw)
  have hown : s.vm.findClass RL = some m.cls := findClass_of_methodNamed B.named
  have hlocks := B.notSynchronized
  subst hsz
  have hD := hD0.self (sz := s.heap.size)
  generalize hAe : va_A (wD cI cZ ad o f u) s.heap.size = A at hD hZ ⊢
  have hA : ∀ q : Nat, s.heap.size ≤ q → A q := fun q h => by rw [← hAe]; exact Or.inr h
  have hS : va_S A s.heap s.heap [] := va_S.rf
  have hl := lv_entry ([.ref (ad 0), .ref o, .int 5, .int 5, .int 5]) (n := 18) (Nat.le_of_ble_eq_true rfl)
  rw [lg_entry_eq]
  generalize (lg_sl ([.ref (ad 0), .ref o, .int 5, .int 5, .int 5]) ++ List.replicate (18 - (lg_sl ([.ref (ad 0), .ref o, .int 5, .int 5, .int 5])).length) Slot.unset).toArray = ls at hl ⊢
  replace hl : lv_has ls 18 [(0, .ref (ad 0)), (1, .ref o), (2, .int 5), (3, .int 5), (4, .int 5)] := hl
  refine w_gen (fun Q hQ => ?_)
  refine lv_iload_n hx hb dL_step_0 rfl (lv_at hl 3 rfl) ?_
  refine lv_bipush (v := 12) hx hb dL_step_1 (by decide) ?_
  refine lv_irem hx hb dL_step_3 (by decide) ?_
  refine lv_topn (x := (5 - 5 / 12 * 12)) (y := 5) (by decide +kernel) ?_
  refine lv_istore (lv' := [(5, .int 5), (0, .ref (ad 0)), (1, .ref o), (2, .int 5), (3, .int 5), (4, .int 5)]) hx hb dL_step_4 hl (by decide) rfl (fun ls hl => ?_)
  refine lv_iload hx hb dL_step_6 (lv_at hl 5 rfl) ?_
  refine lv_iconst (v := 4) hx hb dL_step_8 (by decide) ?_
  refine lv_irem hx hb dL_step_9 (by decide) ?_
  refine lv_topn (x := (5 - 5 / 4 * 4)) (y := 1) (by decide +kernel) ?_
  refine lv_istore (lv' := [(6, .int 1), (5, .int 5), (0, .ref (ad 0)), (1, .ref o), (2, .int 5), (3, .int 5), (4, .int 5)]) hx hb dL_step_10 hl (by decide) rfl (fun ls hl => ?_)
  refine lv_iload_n hx hb dL_step_12 rfl (lv_at hl 4 rfl) ?_
  refine lv_bipush (v := 28) hx hb dL_step_13 (by decide) ?_
  refine lv_irem hx hb dL_step_15 (by decide) ?_
  refine lv_topn (x := (5 - 5 / 28 * 28)) (y := 5) (by decide +kernel) ?_
  refine lv_tableIn (tgt := 161) (off := 145) hx hb dL_step_16 (by decide) (by decide) (by decide) (by decide) ?_
  refine lv_aload_n hx hb dL_step_161 rfl (lv_at hl 2 rfl) ?_
  refine lv_iload hx hb dL_step_162 (lv_at hl 1 rfl) ?_
  refine lv_iload hx hb dL_step_164 (lv_at hl 0 rfl) ?_
  refine cc_iSHZ (As := [.ref (ad 0), .int 5, .int 1]) (rest := []) (wr := [(o, .inl (cI, 4, .inl f))]) ⟨hx, hb, hml, hown, hts⟩ (kx_L_stop l hl0 D cI cZ ad u 5 1 h1) (vx_cwSW 3 hts (gwSH mw_569 mw_570 mw_18 mw_571) rfl rfl rfl (by decide +kernel) ⟨(Nat.le_of_ble_eq_true rfl), (Nat.le_of_ble_eq_true rfl)⟩) hK hP hD hS hA hZ [1, 2, 3, 4, 5, 6, 7, 8, 9, 10, 11, 12, 13, 14, 15, 16, 17, 18, 19, 20, 21, 22, 23, 24, 25, 26, 27, 28, 29, 30, 31, 32, 33, 34, 35] [0] rfl rfl (by decide) rfl (by decide) (by decide) rfl hl.1 rfl (Nat.le_of_ble_eq_true rfl) dL_step_166 ⟨(Nat.le_of_ble_eq_true rfl), (Nat.le_of_ble_eq_true rfl)⟩ (fun H1 locs hP hD hS hz => ?_)
  replace hP : va_P D vwCl (wD cI cZ ad o f u1) H1 := hP
  replace hD : va_D A (wD cI cZ ad o f u1) := hD
  have hN : s.heap.size + 1 ≤ H1.size := hz
  refine lv_istore (lv' := [(7, .int 0), (6, .int 1), (5, .int 5), (0, .ref (ad 0)), (1, .ref o), (2, .int 5), (3, .int 5), (4, .int 5)]) hx hb dL_step_169 hl (by decide) rfl (fun ls hl => ?_)
  refine lv_aload_n hx hb dL_step_171 rfl (lv_at hl 4 rfl) ?_
  refine lv_iconst (v := 3) hx hb dL_step_172 (by decide) ?_
  refine lv_iload hx hb dL_step_173 (lv_at hl 0 rfl) ?_
  refine lv_if_eq (tgt := 187) hx hb dL_step_175 (by decide) (fun _ => ?_) (fun c9 => absurd (by decide) c9)
  refine lv_aload_n hx hb dL_step_187 rfl (lv_at hl 4 rfl) ?_
  refine lv_iconst (v := 3) hx hb dL_step_188 (by decide) ?_
  refine va_iald (D := D) hx hb hK hP 0 0 rfl rfl (by unfold vp_in; decide) dL_step_189 ?_
  refine va_iastM hx hb hK hP hD hS 0 0 rfl rfl (by unfold vp_in; decide) dL_step_190 (fun H2 locs hP hD hS hz => ?_)
  rw [upd_id] at hP hD
  replace hP : va_P D vwCl (wD cI cZ ad o f u1) H2 := hP
  replace hD : va_D A (wD cI cZ ad o f u1) := hD
  replace hN : s.heap.size + 1 ≤ H2.size := by rw [hz]; exact hN
  refine lv_aload_n hx hb dL_step_191 rfl (lv_at hl 3 rfl) ?_
  refine lv_iload hx hb dL_step_192 (lv_at hl 2 rfl) ?_
  refine lv_iload hx hb dL_step_194 (lv_at hl 1 rfl) ?_
  refine cc_iSHZ (As := [.ref (ad 0), .int 5, .int 1]) (rest := []) (wr := [(o, .inl (cI, 4, .inl f))]) ⟨hx, hb, hml, hown, hts⟩ (kx_L_stop l hl0 D cI cZ ad u1 5 1 h2) (vx_cwSW 3 hts (gwSH mw_569 mw_570 mw_18 mw_571) rfl rfl rfl (by decide +kernel) ⟨(Nat.le_of_ble_eq_true rfl), (Nat.le_of_ble_eq_true rfl)⟩) hK hP hD hS hA hZ [1, 2, 3, 4, 5, 6, 7, 8, 9, 10, 11, 12, 13, 14, 15, 16, 17, 18, 19, 20, 21, 22, 23, 24, 25, 26, 27, 28, 29, 30, 31, 32, 33, 34, 35] [0] rfl rfl (by decide) rfl (by decide) (by decide) rfl hl.1 rfl (Nat.le_of_ble_eq_true rfl) dL_step_196 ⟨(Nat.le_of_ble_eq_true rfl), (Nat.le_of_ble_eq_true rfl)⟩ (fun H3 locs hP hD hS hz => ?_)
  replace hP : va_P D vwCl (wD cI cZ ad o f u2) H3 := hP
  replace hD : va_D A (wD cI cZ ad o f u2) := hD
  replace hN : s.heap.size + 2 ≤ H3.size := by omega
  refine lv_if_ne (tgt := 231) hx hb dL_step_199 (by decide) (fun c9 => absurd rfl c9) (fun _ => ?_)
  refine lv_iload hx hb dL_step_202 (lv_at hl 1 rfl) ?_
  refine lv_if_gt (tgt := 227) hx hb dL_step_204 (by decide) (fun _ => ?_) (fun c9 => absurd (by decide) c9)
  refine lv_iconst (v := 1) hx hb dL_step_227 (by decide) ?_
  refine lv_goto (tgt := 232) hx hb dL_step_228 (by decide) ?_
  exact cc_retZ hx hb hr rfl hQ hK hP hD hS hN rfl dL_step_232 hlocks
end
section
/-! the calls of the run, at states that are written out: values by the kernel -/
def vTold (j : Nat) : Int32 := if j % 4 = 0 then 2 else 0
def vKept (j : Nat) : Int32 := if j < 12 then 30722 else 0
/-- the object as it is made -/
def uI : GS := ((0 : Int32), ((fun _ => 0), (fun _ => 0), (fun _ => 0), (0 : Int32), (0 : Int32), (0 : Int32), (0 : Int32)), ((fun _ => 0), (fun _ => 0)), ((fun _ => -1), (fun _ => 120), (fun _ => -1000), (0 : Int32)), ((fun _ => -1), vTold, vTold), ((fun _ => 0), (fun _ => -1000)), ((fun _ => 0), (fun _ => 0), (fun _ => 0), (0 : Int32)), ((fun _ => 0), (fun _ => -1), (fun _ => 0)), ((fun _ => 0), (fun _ => 0), (fun _ => 0), (fun _ => 0), (fun _ => 0), (0 : Int32)), vKept)
/-- and behind the first stop at the section 5, lane 1 -/
def uS : GS := cT_stopped_set uI (fun j => if j = 21 then 1 else 0)
def eqn (n : Nat) (f g : Nat → Int32) : Bool := (List.range n).all fun j => decide (f j = g j)
theorem eqn_at {n : Nat} {f g : Nat → Int32} (h : eqn n f g = true) (j : Nat) (hj : j < n) : f j = g j := of_decide_eq_true (List.all_eq_true.mp h j (List.mem_range.mpr hj))
/-- the same numbers, as far as the rows reach -/
def geqb (u v : GS) : Bool := decide (c_minute u = c_minute v) && eqn 48 (cT_held u) (cT_held v) && eqn 48 (cT_stopped u) (cT_stopped v) && eqn 12 (cT_broken u) (cT_broken v) && decide (cT_demand u = cT_demand v) && decide (cT_came u = cT_came v) && decide (cT_waiting u = cT_waiting v) && decide (cT_gone u = cT_gone v) && eqn 12 (cD_is u) (cD_is v) && eqn 12 (cD_stuckAt u) (cD_stuckAt v) && eqn 12 (cS_limits u) (cS_limits v) && eqn 12 (cS_shown u) (cS_shown v) && eqn 12 (cS_loweredAt u) (cS_loweredAt v) && decide (cS_weather u = cS_weather v) && eqn 48 (cL_orders u) (cL_orders v) && eqn 48 (cL_told u) (cL_told v) && eqn 48 (cL_shown u) (cL_shown v) && eqn 12 (cH_open u) (cH_open v) && eqn 12 (cH_foundClearAt u) (cH_foundClearAt v) && eqn 12 (cI_places u) (cI_places v) && eqn 12 (cI_how u) (cI_how v) && eqn 12 (cI_patrols u) (cI_patrols v) && decide (cI_count u = cI_count v) && eqn 3 (cP_sections u) (cP_sections v) && eqn 3 (cP_incidents u) (cP_incidents v) && eqn 3 (cP_minutesLeft u) (cP_minutesLeft v) && eqn 8 (cB_lanes u) (cB_lanes v) && eqn 8 (cB_froms u) (cB_froms v) && eqn 8 (cB_tos u) (cB_tos v) && eqn 8 (cB_begins u) (cB_begins v) && eqn 8 (cB_ends u) (cB_ends v) && decide (cB_count u = cB_count v) && eqn 720 (cK_kept u) (cK_kept v)
def ob {α : Type} (x : Option α) (f : α → Bool) : Bool := match x with
  | none => false
  | some y => f y
theorem ob_ex {α : Type} {x : Option α} {f : α → Bool} (h : ob x f = true) : ∃ y, x = some y ∧ f y = true := by
  cases x with
  | none => cases h
  | some y => exact ⟨y, rfl, h⟩
def ox (x : Option (g_X × GS)) (r : g_X → Bool) (f : GS → Bool) : Bool := ob x fun q => r q.1 && f q.2
def isR (r : Int32) : g_X → Bool
  | .inl a => decide (a = r)
  | .inr _ => false
def isE : g_X → Bool
  | .inl _ => false
  | .inr E => decide (E = "java/lang/IllegalStateException")
theorem ox_r {x : Option (g_X × GS)} {r : Int32} {f : GS → Bool} (h : ox x (isR r) f = true) : ∃ w, x = some (.inl r, w) ∧ f w = true := by
  obtain ⟨⟨q, w⟩, e, h⟩ := ob_ex h
  obtain ⟨h1, h2⟩ := Bool.and_eq_true_iff.mp h
  cases q with
  | inl a =>
    have h3 : a = r := of_decide_eq_true h1
    exact ⟨w, by rw [e, h3], h2⟩
  | inr E => cases h1
theorem ox_e {x : Option (g_X × GS)} {f : GS → Bool} (h : ox x isE f = true) : ∃ w, x = some (.inr "java/lang/IllegalStateException", w) ∧ f w = true := by
  obtain ⟨⟨q, w⟩, e, h⟩ := ob_ex h
  obtain ⟨h1, h2⟩ := Bool.and_eq_true_iff.mp h
  cases q with
  | inl a => cases h1
  | inr E =>
    have h3 : E = "java/lang/IllegalStateException" := of_decide_eq_true h1
    exact ⟨w, by rw [e, h3], h2⟩
theorem wi_r {x : Option (Int32 × GS)} {r : Int32} {f : GS → Bool} (h : (ob x fun q => decide (q.1 = r) && f q.2) = true) : ∃ w, x = some (r, w) ∧ f w = true := by
  obtain ⟨⟨q, w⟩, e, h⟩ := ob_ex h
  obtain ⟨h1, h2⟩ := Bool.and_eq_true_iff.mp h
  have h3 : q = r := of_decide_eq_true h1
  exact ⟨w, by rw [e, h3], h2⟩
set_option maxRecDepth 100000 in
theorem ev_init : (ob (g_X7_init2 u0_X7) fun a => ob (g_X3_init2 u0_X3) fun b => ob (g_X6_init2 u0_X6) fun c => ob (g_X9_init2 (u0_X9 a b c)) fun w => geqb w uI) = true := by decide +kernel
set_option maxRecDepth 100000 in
theorem ev_lawful : (ob (g_X9_isLawful uI) fun q => decide (q.1 = 1) && geqb q.2 uI) = true := by decide +kernel
set_option maxRecDepth 100000 in
theorem ev_pattern : g_X9_pattern uI = some (-1) := by decide +kernel
set_option maxRecDepth 100000 in
theorem ev_sign1 : ox (g_X9_sign uI 0 0) (isR 2) (fun w => geqb w uI) = true := by decide +kernel
set_option maxRecDepth 100000 in
theorem ev_sign2 : ox (g_X9_sign uI 11 3) (isR 0) (fun w => geqb w uI) = true := by decide +kernel
set_option maxRecDepth 100000 in
theorem ev_proof : ox (g_X9_proof uI 0 5 0) (isR 120) (fun w => geqb w uI) = true := by decide +kernel
set_option maxRecDepth 100000 in
theorem ev_shown : ox (g_L_isShown uI 0) (isR 1) (fun w => geqb w uI) = true := by decide +kernel
set_option maxRecDepth 100000 in
theorem ev_stopA : (ob (g_X9_stop uI 5 1) fun q => isR 0 q.1 && ox (g_X9_stop q.2 5 1) isE (fun w => geqb w uS)) = true := by decide +kernel
set_option maxRecDepth 100000 in
theorem ev_stopB : ox (g_X9_stop uS 5 1) isE (fun w => ox (g_X9_stop w 5 1) isE (fun w2 => geqb w2 uS)) = true := by decide +kernel
set_option maxRecDepth 100000 in
theorem ev_road : ox (g_L_isRoad uS) (isR 1) (fun w => geqb w uS) = true := by decide +kernel
end
section
/-! BESIDE THE CLAIM, NO PART OF IT: p29's words of the speed signs, of the class's own bytecode: behind SpeedSigns.setAnew (its contract is k_X7_setAnew) each sign is at most 20 above the next one, whatever is ordered by hand -/
theorem sg_p1 : ∀ k : Nat, k < 12 → (nI k + (-1)).toInt = (k : Int) - 1 := by decide +kernel
theorem sg_loop (p0 : Int32) : ∀ (n : Nat) (x : Int32) (w r : GS), lp_X7_setAnew_4 p0 (fun (w4 : GS) => some w4) n x w = some r → x.toInt ≤ 11 → (∀ s : Nat, s < 11 → x.toInt < s → cS_shown w s ≤ cS_shown w (s + 1) + 20) → ∀ s : Nat, s < 11 → cS_shown r s ≤ cS_shown r (s + 1) + 20 := by
  intro n
  induction n with
  | zero =>
    intro x w r h
    cases h
  | succ n ih =>
    intro x w r h hx hv
    rw [lp_X7_setAnew_4] at h
    by_cases c : x < 0
    · replace h := gx_t c h
      cases h
      intro s hs
      refine hv s hs ?_
      have h0 : x.toInt < (0 : Int32).toInt := Int32.lt_iff_toInt_lt.mp c
      have h9 : (0 : Int32).toInt = 0 := by decide
      omega
    · replace h := gx_f c h
      obtain ⟨k, hk, rfl⟩ := nI_of c
      rw [nI_toInt hk] at hx hv
      obtain ⟨y2, -, h⟩ := gx_bind h
      obtain ⟨y4, -, h⟩ := gx_bind h
      obtain ⟨y6, -, h⟩ := gx_bind h
      obtain ⟨j48, e48, h⟩ := gx_let h
      have h1 : ∃ z, j48 z = some r := by
        by_cases c6 : y6 = 0
        · exact ⟨_, gx_t c6 h⟩
        · exact ⟨_, (gx_in (gx_f c6 h)).2⟩
      clear h
      obtain ⟨z, h⟩ := h1
      subst e48
      obtain ⟨j78, e78, h⟩ := gx_let h
      have h2 : ∃ v, j78 v = some r ∧ (k < 11 → v ≤ cS_shown w (k + 1) + 20) := by
        by_cases c12 : (12 : Int32) ≤ nI k + 1
        · refine ⟨_, gx_t c12 h, fun hk1 => ?_⟩
          rw [nI_1, show (12 : Int32) = nI 12 from rfl, nI_leI (by decide) (by omega)] at c12
          omega
        · obtain ⟨-, h⟩ := gx_in (gx_f c12 h)
          obtain ⟨v, ev, h⟩ := gx_let h
          refine ⟨v, h, fun hk1 => ?_⟩
          rw [nI_1, nI_clamp (by omega)] at ev
          rw [← ev]
          split
          · exact Int32.le_refl _
          · rename_i q
            exact Int32.not_lt.mp q
      clear h
      obtain ⟨v, h, hle⟩ := h2
      subst e78
      obtain ⟨-, h⟩ := gx_in h
      obtain ⟨j98, e98, h⟩ := gx_let h
      have h3 : ∃ w', cS_shown w' = cS_shown w ∧ j98 w' = some r := by
        by_cases c3 : cS_shown w (nI k).toNatClampNeg ≤ v
        · exact ⟨w, rfl, gx_t c3 h⟩
        · obtain ⟨-, h⟩ := gx_in (gx_f c3 h)
          obtain ⟨u17, e17, h⟩ := gx_let h
          exact ⟨u17, by rw [← e17]; rfl, h⟩
      clear h
      obtain ⟨w', ew, h⟩ := h3
      subst e98
      obtain ⟨-, h⟩ := gx_in h
      obtain ⟨u13, e13, h⟩ := gx_let h
      obtain ⟨v14, e14, h⟩ := gx_let h
      have hs13 : cS_shown u13 = upd (cS_shown w) k v := by
        rw [← e13]
        show upd (cS_shown w') (nI k).toNatClampNeg v = _
        rw [ew, nI_clamp hk]
      have hx14 : v14.toInt = (k : Int) - 1 := by
        rw [← e14]
        exact sg_p1 k (by omega)
      refine ih v14 u13 r h (by omega) (fun s hs hlt => ?_)
      rw [hs13]
      by_cases e : s = k
      · subst e
        have a1 : upd (cS_shown w) s v s = v := if_pos rfl
        have a2 : upd (cS_shown w) s v (s + 1) = cS_shown w (s + 1) := if_neg (by omega)
        rw [a1, a2]
        exact hle hs
      · have a1 : upd (cS_shown w) k v s = cS_shown w s := if_neg e
        have a2 : upd (cS_shown w) k v (s + 1) = cS_shown w (s + 1) := if_neg (by omega)
        rw [a1, a2]
        exact hv s hs (by omega)
theorem sign_next {u w : GS} {m : Int32} (h : g_X7_setAnew u m = some w) : ∀ s : Nat, s < 11 → cS_shown w s ≤ cS_shown w (s + 1) + 20 :=
  sg_loop m FU 11 u w h (by decide) (fun s hs q => by
    have h9 : (11 : Int32).toInt = 11 := by decide
    omega)
end
section
/-! THE CLAIM OUT OF ONE WALK OF THE LAW'S BODY. Your part is whole_start (and what it stands on); all else here is the same for every law, but numbers. -/
def R_law : String := "RedcrossGantryLaw"
def lw_P (b : Addr) (xs : List Int32) (args : Array Value) (s : State) : Prop := args = #[.ref b] ∧ s.IntsAt b xs ∧ xs.length ≤ 260 ∧ (Jvm.Cond.and given_1 narrow_1).before args s = true
def lw_Q (_ : Array Value) (s : State) (o : Outcome) (t : State) : Prop := o = .returned (some (.int 1)) ∧ Framed s o t [] 125 1893
def lw_Z (below : List Frame) (a : Array Value) (s : State) : State → Prop := fun t => ∃ o, t.status = .running ∧ Ended t below o ∧ lw_Q a s o t
/-- the law's own end, with 1 on the stack, nothing written that was there before, its room as the claim has it -/
theorem lw_ret {p : Program} {l : Launch} {e : Env} {s : State} {m : MethodId} {below : List Frame} {meth : Method} {c : Code} {b : Nat} (hx : p.tables.exec = Jvm.exec) (hb : c.code = code) (hr : meth.sig.returnType = ret) (hlocks : meth.locks = false) {pc : Nat} {H : Heap} {ls : Array Slot} (hdg : decode code pc = .ok (.ireturn, 1)) : W p l e room_1 s m #[Value.ref b] below meth c H [] 125 1893 (lw_Z below #[Value.ref b] s) (F0 m pc ls [.int 1]) := by
  intro T hT X
  obtain ⟨fs, hret, hrun, hended, hW, hframe⟩ := X.leave (v := some (.int 1)) (hlocks := hlocks) (fun h => by rw [hr] at h; cases h)
  have hmeth' : T.vm.method? m = some meth := X.method'
  refine ⟨T.setFrames fs, ?_, .returned (some (.int 1)), hrun, hended, rfl, ⟨_, rfl⟩, hW, hframe⟩
  jvm_step X.here [X.here.top, hx, hb, hdg, hmeth', hr, ret, narrow_b1]
  (try refine ⟨rfl, ?_⟩); (try refine ⟨rfl, ?_⟩)
  first | (intro acts; rw [hret _ acts rfl rfl rfl]) | rw [hret _ _ rfl rfl rfl]
  exact Steps.refl _
/-- what holds at the law's entry: the machine, the code, the tables' words (any of lw_tbl by 'hts w (by decide +kernel)'), the script of L ints xs at the cell b, what the Statement gives of the start (any of its parts by flat_of_before) -/
def lw_At (p : Program) (s : State) (m : MethodId) (meth : Method) (c : Code) (b L : Nat) (xs : Nat → Int32) : Prop :=
  p.tables.exec = Jvm.exec ∧ c.code = code ∧ meth.sig.returnType = ret ∧ c.maxLocals = 6 ∧ s.vm.findClass R_law = some m.cls ∧ (∀ w ∈ lw_tbl, w.before #[Value.ref b] s = true) ∧ va_X b L xs s s.heap ∧ b < s.heap.size ∧ meth.locks = false ∧ (Jvm.Cond.and given_1 narrow_1).before #[Value.ref b] s = true
/-! a world at a state, and at another of the same numbers -/
theorem va_P_cons {D : va_G} {cl : List vw_C} {q : Nat × va_E} {ws : va_W} {H : Heap} : va_P D cl (q :: ws) H ↔ va_at D cl q H ∧ va_P D cl ws H := by
  constructor
  · intro h
    exact ⟨h 0 q rfl, fun k p hk => h (k + 1) p (by simpa using hk)⟩
  · rintro ⟨h1, h2⟩ k p hk
    cases k with
    | zero => cases hk; exact h1
    | succ k => exact h2 k p (by simpa using hk)
theorem va_at_sw {D : va_G} {cl : List vw_C} {a : Nat} {c : ClassId} {n : Nat} {f g : Nat → Int32} {H : Heap} (h : ∀ j : Nat, j < n → f j = g j) (hp : va_at D cl (a, .inl (c, n, .inl f)) H) : va_at D cl (a, .inl (c, n, .inl g)) H := by
  have e : vp_cell c (n, .inl f) = vp_cell c (n, .inl g) := by
    rw [vp_cell_i, vp_cell_i]
    unfold arrV
    congr 2
    funext j
    exact congrArg Value.int (h j.1 j.2)
  show H[a]? = some (vp_cell c (n, .inl g))
  rw [← e]
  exact hp
theorem va_D_sw {A : Nat → Prop} {ws ws' : va_W} (h : ws'.map (·.1) = ws.map (·.1)) (hD : va_D A ws) : va_D A ws' := by
  have hx : ∀ (k : Nat) (q : Nat × va_E), ws'[k]? = some q → ∃ q' : Nat × va_E, ws[k]? = some q' ∧ q'.1 = q.1 := by
    intro k q hk
    have h1 : (ws'.map (·.1))[k]? = some q.1 := by rw [List.getElem?_map, hk]; rfl
    rw [h, List.getElem?_map] at h1
    cases hw : ws[k]? with
    | none => rw [hw] at h1; cases h1
    | some q' =>
      rw [hw] at h1
      exact ⟨q', rfl, Option.some.inj h1⟩
  constructor
  · intro i j p q hp hq e
    obtain ⟨p', h1, e1⟩ := hx i p hp
    obtain ⟨q', h2, e2⟩ := hx j q hq
    exact hD.1 i j p' q' h1 h2 (by rw [e1, e2, e])
  · intro k q hk
    obtain ⟨q', h1, e1⟩ := hx k q hk
    rw [← e1]
    exact hD.2 k q' h1
theorem wC_sw {D : va_G} {cI cZ : ClassId} {ad : Nat → Nat} {u v : GS} {H : Heap} (h : geqb u v = true) (hP : va_P D vwCl (wC cI cZ ad u) H) : va_P D vwCl (wC cI cZ ad v) H := by
  simp only [geqb, Bool.and_eq_true, decide_eq_true_eq] at h
  obtain ⟨⟨⟨⟨⟨⟨⟨⟨⟨⟨⟨⟨⟨⟨⟨⟨⟨⟨⟨⟨⟨⟨⟨⟨⟨⟨⟨⟨⟨⟨⟨⟨z0, z1⟩, z2⟩, z3⟩, z4⟩, z5⟩, z6⟩, z7⟩, z8⟩, z9⟩, z10⟩, z11⟩, z12⟩, z13⟩, z14⟩, z15⟩, z16⟩, z17⟩, z18⟩, z19⟩, z20⟩, z21⟩, z22⟩, z23⟩, z24⟩, z25⟩, z26⟩, z27⟩, z28⟩, z29⟩, z30⟩, z31⟩, z32⟩ := h
  unfold wC at hP ⊢
  simp only [va_P_cons] at hP ⊢
  obtain ⟨h0, h1, h2, h3, h4, h5, h6, h7, h8, h9, h10, h11, h12, h13, h14, h15, h16, h17, h18, h19, h20, h21, h22, h23, h24, h25, h26, h27, h28, h29, h30, h31, h32, h33, h34, hn⟩ := hP
  exact ⟨by rw [← z0]; exact h0, by rw [← z4, ← z5, ← z6, ← z7]; exact h1, h2, by rw [← z13]; exact h3, h4, h5, by rw [← z22]; exact h6, h7, by rw [← z31]; exact h8, h9, va_at_sw (eqn_at z1) h10, va_at_sw (eqn_at z2) h11, va_at_sw (eqn_at z3) h12, va_at_sw (eqn_at z8) h13, va_at_sw (eqn_at z9) h14, va_at_sw (eqn_at z10) h15, va_at_sw (eqn_at z11) h16, va_at_sw (eqn_at z12) h17, va_at_sw (eqn_at z14) h18, va_at_sw (eqn_at z15) h19, va_at_sw (eqn_at z16) h20, va_at_sw (eqn_at z17) h21, va_at_sw (eqn_at z18) h22, va_at_sw (eqn_at z19) h23, va_at_sw (eqn_at z20) h24, va_at_sw (eqn_at z21) h25, va_at_sw (eqn_at z23) h26, va_at_sw (eqn_at z24) h27, va_at_sw (eqn_at z25) h28, va_at_sw (eqn_at z26) h29, va_at_sw (eqn_at z27) h30, va_at_sw (eqn_at z28) h31, va_at_sw (eqn_at z29) h32, va_at_sw (eqn_at z30) h33, va_at_sw (eqn_at z32) h34, hn⟩
theorem wC_swD {A : Nat → Prop} {cI cZ : ClassId} {ad : Nat → Nat} {u v : GS} (hD : va_D A (wC cI cZ ad u)) : va_D A (wC cI cZ ad v) := va_D_sw (ws := wC cI cZ ad u) rfl hD
theorem wD_sw {D : va_G} {cI cZ : ClassId} {ad : Nat → Nat} {o : Nat} {f : Nat → Int32} {u v : GS} {H : Heap} (h : geqb u v = true) (hP : va_P D vwCl (wD cI cZ ad o f u) H) : va_P D vwCl (wD cI cZ ad o f v) H := va_P_cons.mpr ⟨(va_P_cons.mp hP).1, wC_sw h (va_P_cons.mp hP).2⟩
theorem wD_swD {A : Nat → Prop} {cI cZ : ClassId} {ad : Nat → Nat} {o : Nat} {f : Nat → Int32} {u v : GS} (hD : va_D A (wD cI cZ ad o f u)) : va_D A (wD cI cZ ad o f v) := va_D_sw (ws := wD cI cZ ad o f u) rfl hD
theorem st_D {s : State} {args : Array Value} (hts : ∀ w ∈ Wall, w.before args s = true) : ∃ D : va_G, ∀ (k : Nat) (q : vw_C), vwCl[k]? = some q → u_Kn s q.1 q.2.1 q.2.2 (D.1 k) (D.2 k) := by
  have h1 : ∀ (k : Nat) (q : vw_C), vwCl[k]? = some q → ∃ (cC : ClassId) (iS : Nat → Nat), u_Kn s q.1 q.2.1 q.2.2 cC iS := by
    intro k q hq
    match k, hq with
    | 0, hq =>
      cases hq
      exact u_known hts iX0 (hts _ mw_192)
    | 1, hq =>
      cases hq
      exact u_known hts iX1 (hts _ mw_82)
    | 2, hq =>
      cases hq
      exact u_known hts iX2 (hts _ mw_151)
    | 3, hq =>
      cases hq
      exact u_known hts iX3 (hts _ mw_119)
    | 4, hq =>
      cases hq
      exact u_known hts iX4 (hts _ mw_173)
    | 5, hq =>
      cases hq
      exact u_known hts iX5 (hts _ mw_218)
    | 6, hq =>
      cases hq
      exact u_known hts iX6 (hts _ mw_137)
    | 7, hq =>
      cases hq
      exact u_known hts iX7 (hts _ mw_97)
    | 8, hq =>
      cases hq
      exact u_known hts iX8 (hts _ mw_45)
    | 9, hq =>
      cases hq
      exact u_known hts iX9 (hts _ mw_37)
    | k + 10, hq => simp [vwCl] at hq
  have h2 : ∀ k : Nat, ∃ x : ClassId × (Nat → Nat), ∀ q : vw_C, vwCl[k]? = some q → u_Kn s q.1 q.2.1 q.2.2 x.1 x.2 := by
    intro k
    cases hq : vwCl[k]? with
    | none => exact ⟨(0, fun _ => 0), fun q h => by cases h⟩
    | some q =>
      obtain ⟨cC, iS, h3⟩ := h1 k q hq
      exact ⟨(cC, iS), fun q' h' => by
        cases h'
        exact h3⟩
  exact ⟨(fun k => (Classical.choose (h2 k)).1, fun k => (Classical.choose (h2 k)).2), fun k q hq => Classical.choose_spec (h2 k) q hq⟩
theorem st_K {s : State} {args : Array Value} (hts : ∀ w ∈ Wall, w.before args s = true) : ∃ (D : va_G) (cI cZ : ClassId), va_K D vwCl [(cI, .int), (cZ, .boolean)] s := by
  obtain ⟨D, hKc⟩ := st_D hts
  obtain ⟨cI, kI, pI, i1, i2, i3⟩ := Cond.arrayClass_spec (type := .int) (show (Cond.arrayClass .int).holds args s none s [] = true from hts _ mw_79)
  obtain ⟨cZ, kZ, pZ, z1, z2, z3⟩ := Cond.arrayClass_spec (type := .boolean) (show (Cond.arrayClass .boolean).holds args s none s [] = true from hts _ mw_80)
  refine ⟨D, cI, cZ, hKc, fun k q hq => ?_⟩
  match k, hq with
  | 0, hq =>
    cases hq
    exact ⟨fun n z => ⟨fun k h => (by cases h), kI, i2, pI, i3⟩, i1⟩
  | 1, hq =>
    cases hq
    exact ⟨fun n z => ⟨fun k h => (by cases h), kZ, z2, pZ, z3⟩, z1⟩
  | k + 2, hq => simp at hq
set_option maxHeartbeats 4000000 in
set_option maxRecDepth 100000 in
theorem st_cst {s : State} {b : Nat} (hts0 : ∀ w ∈ lw_tbl, w.before #[Value.ref b] s = true) (hgv : (Jvm.Cond.and given_1 narrow_1).before #[Value.ref b] s = true) {cR : ClassId} (hcR : s.vm.findClass RX9 = some cR) : cst (fun q : Nat => s.heap.size ≤ q) s := by
  have hq := flat_of_before _ hgv
  have hA0 : ∀ a0 : Nat, a0 < s.heap.size → ¬ (fun q : Nat => s.heap.size ≤ q) a0 := fun a0 h => Nat.not_le.mpr h
  have E1 : ∀ j : Nat, j < 3 → (Term.elem (.static "RedcrossGantry$Traffic" "TRIES_IF_OPEN" "[I") (.int (Int32.ofNat j))).eval #[Value.ref b] s none [] s = some (.int (tioF j)) := by
    intro j hj
    rcases (show j = 0 ∨ j = 1 ∨ j = 2 by omega) with rfl | rfl | rfl
    · exact va_eqt (t := .elem (.static "RedcrossGantry$Traffic" "TRIES_IF_OPEN" "[I") (.int 0)) (z := 0) (hq _ (by decide +kernel))
    · exact va_eqt (t := .elem (.static "RedcrossGantry$Traffic" "TRIES_IF_OPEN" "[I") (.int 1)) (z := (-1)) (hq _ (by decide +kernel))
    · exact va_eqt (t := .elem (.static "RedcrossGantry$Traffic" "TRIES_IF_OPEN" "[I") (.int 2)) (z := 1) (hq _ (by decide +kernel))
  have l1 : (Term.length (.static "RedcrossGantry$Traffic" "TRIES_IF_OPEN" "[I")).eval #[Value.ref b] s none [] s = some (.int (Int32.ofNat 3)) := va_eqt (t := .length (.static "RedcrossGantry$Traffic" "TRIES_IF_OPEN" "[I")) (z := 3) (hq _ (by decide +kernel))
  obtain ⟨t1, e1, T1⟩ := va_Tof (tm := (.static "RedcrossGantry$Traffic" "TRIES_IF_OPEN" "[I")) (ty := .int) (N := 3) (f := fun j => .int (tioF j)) (A := (fun q : Nat => s.heap.size ≤ q)) (by decide) (hq _ (by decide +kernel)) l1 E1 hA0
  have Z1 : va_Z "RedcrossGantry$Traffic" "TRIES_IF_OPEN" "[I" (.ref t1) (fun q : Nat => s.heap.size ≤ q) s s.heap := va_Zref (hts0 _ (List.mem_of_getElem? (i := 740) (by decide +kernel))) (hts0 _ (List.mem_of_getElem? (i := 20) (by decide +kernel))) e1 hA0
  have E2 : ∀ j : Nat, j < 3 → (Term.elem (.static "RedcrossGantry$Traffic" "TRIES_IF_NOT_OPEN" "[I") (.int (Int32.ofNat j))).eval #[Value.ref b] s none [] s = some (.int (tinF j)) := by
    intro j hj
    rcases (show j = 0 ∨ j = 1 ∨ j = 2 by omega) with rfl | rfl | rfl
    · exact va_eqt (t := .elem (.static "RedcrossGantry$Traffic" "TRIES_IF_NOT_OPEN" "[I") (.int 0)) (z := (-1)) (hq _ (by decide +kernel))
    · exact va_eqt (t := .elem (.static "RedcrossGantry$Traffic" "TRIES_IF_NOT_OPEN" "[I") (.int 1)) (z := 1) (hq _ (by decide +kernel))
    · exact va_eqt (t := .elem (.static "RedcrossGantry$Traffic" "TRIES_IF_NOT_OPEN" "[I") (.int 2)) (z := 0) (hq _ (by decide +kernel))
  have l2 : (Term.length (.static "RedcrossGantry$Traffic" "TRIES_IF_NOT_OPEN" "[I")).eval #[Value.ref b] s none [] s = some (.int (Int32.ofNat 3)) := va_eqt (t := .length (.static "RedcrossGantry$Traffic" "TRIES_IF_NOT_OPEN" "[I")) (z := 3) (hq _ (by decide +kernel))
  obtain ⟨t2, e2, T2⟩ := va_Tof (tm := (.static "RedcrossGantry$Traffic" "TRIES_IF_NOT_OPEN" "[I")) (ty := .int) (N := 3) (f := fun j => .int (tinF j)) (A := (fun q : Nat => s.heap.size ≤ q)) (by decide) (hq _ (by decide +kernel)) l2 E2 hA0
  have Z2 : va_Z "RedcrossGantry$Traffic" "TRIES_IF_NOT_OPEN" "[I" (.ref t2) (fun q : Nat => s.heap.size ≤ q) s s.heap := va_Zref (hts0 _ (List.mem_of_getElem? (i := 742) (by decide +kernel))) (hts0 _ (List.mem_of_getElem? (i := 20) (by decide +kernel))) e2 hA0
  have E3 : ∀ j : Nat, j < 4 → (Term.elem (.static "RedcrossGantry$SpeedSigns" "WEATHER_LETS" "[I") (.int (Int32.ofNat j))).eval #[Value.ref b] s none [] s = some (.int (wlF j)) := by
    intro j hj
    rcases (show j = 0 ∨ j = 1 ∨ j = 2 ∨ j = 3 by omega) with rfl | rfl | rfl | rfl
    · exact va_eqt (t := .elem (.static "RedcrossGantry$SpeedSigns" "WEATHER_LETS" "[I") (.int 0)) (z := 120) (hq _ (by decide +kernel))
    · exact va_eqt (t := .elem (.static "RedcrossGantry$SpeedSigns" "WEATHER_LETS" "[I") (.int 1)) (z := 80) (hq _ (by decide +kernel))
    · exact va_eqt (t := .elem (.static "RedcrossGantry$SpeedSigns" "WEATHER_LETS" "[I") (.int 2)) (z := 60) (hq _ (by decide +kernel))
    · exact va_eqt (t := .elem (.static "RedcrossGantry$SpeedSigns" "WEATHER_LETS" "[I") (.int 3)) (z := 40) (hq _ (by decide +kernel))
  have l3 : (Term.length (.static "RedcrossGantry$SpeedSigns" "WEATHER_LETS" "[I")).eval #[Value.ref b] s none [] s = some (.int (Int32.ofNat 4)) := va_eqt (t := .length (.static "RedcrossGantry$SpeedSigns" "WEATHER_LETS" "[I")) (z := 4) (hq _ (by decide +kernel))
  obtain ⟨t3, e3, T3⟩ := va_Tof (tm := (.static "RedcrossGantry$SpeedSigns" "WEATHER_LETS" "[I")) (ty := .int) (N := 4) (f := fun j => .int (wlF j)) (A := (fun q : Nat => s.heap.size ≤ q)) (by decide) (hq _ (by decide +kernel)) l3 E3 hA0
  have Z3 : va_Z "RedcrossGantry$SpeedSigns" "WEATHER_LETS" "[I" (.ref t3) (fun q : Nat => s.heap.size ≤ q) s s.heap := va_Zref (hts0 _ (List.mem_of_getElem? (i := 770) (by decide +kernel))) (hts0 _ (List.mem_of_getElem? (i := 22) (by decide +kernel))) e3 hA0
  have s1 : (Cond.stringRef RX9 260 "there is none of that number").before #[Value.ref b] s = true := (hts0 _ (List.mem_of_getElem? (i := 360) (by decide +kernel)))
  obtain ⟨_, _, _, a1, _, _, _, _, _, r1⟩ := Cond.stringRef_spec hcR (show (Cond.stringRef RX9 260 "there is none of that number").holds #[Value.ref b] s none s [] = true from s1)
  have s2 : (Cond.stringRef RX9 267 "an argument is out of its range").before #[Value.ref b] s = true := (hts0 _ (List.mem_of_getElem? (i := 444) (by decide +kernel)))
  obtain ⟨_, _, _, a2, _, _, _, _, _, r2⟩ := Cond.stringRef_spec hcR (show (Cond.stringRef RX9 267 "an argument is out of its range").holds #[Value.ref b] s none s [] = true from s2)
  have s3 : (Cond.stringRef RX9 272 "that cannot be by now").before #[Value.ref b] s = true := (hts0 _ (List.mem_of_getElem? (i := 467) (by decide +kernel)))
  obtain ⟨_, _, _, a3, _, _, _, _, _, r3⟩ := Cond.stringRef_spec hcR (show (Cond.stringRef RX9 272 "that cannot be by now").holds #[Value.ref b] s none s [] = true from s3)
  have hcx : cxt s := ⟨List.forall_mem_cons.mpr ⟨va_Nw.of rfl (hts0 _ (List.mem_of_getElem? (i := 323) (by decide +kernel))), List.forall_mem_cons.mpr ⟨va_Nw.of rfl (hts0 _ (List.mem_of_getElem? (i := 325) (by decide +kernel))), List.forall_mem_cons.mpr ⟨va_Nw.of rfl (hts0 _ (List.mem_of_getElem? (i := 327) (by decide +kernel))), fun _ h => absurd h List.not_mem_nil⟩⟩⟩, List.forall_mem_cons.mpr ⟨va_Nw.of rfl (hts0 _ (List.mem_of_getElem? (i := 321) (by decide +kernel))), List.forall_mem_cons.mpr ⟨va_Nw.of rfl (hts0 _ (List.mem_of_getElem? (i := 437) (by decide +kernel))), List.forall_mem_cons.mpr ⟨va_Nw.of rfl (hts0 _ (List.mem_of_getElem? (i := 460) (by decide +kernel))), fun _ h => absurd h List.not_mem_nil⟩⟩⟩, fun _ h => absurd h List.not_mem_nil⟩
  have hn : ∀ q ∈ nestL, va_Nw (.methodLinkNest q.1 q.2.1 q.2.2 "RedcrossGantry") s := List.forall_mem_cons.mpr ⟨va_Nw.of rfl (hts0 _ (List.mem_of_getElem? (i := 46) (by decide +kernel))), List.forall_mem_cons.mpr ⟨va_Nw.of rfl (hts0 _ (List.mem_of_getElem? (i := 83) (by decide +kernel))), List.forall_mem_cons.mpr ⟨va_Nw.of rfl (hts0 _ (List.mem_of_getElem? (i := 152) (by decide +kernel))), List.forall_mem_cons.mpr ⟨va_Nw.of rfl (hts0 _ (List.mem_of_getElem? (i := 174) (by decide +kernel))), List.forall_mem_cons.mpr ⟨va_Nw.of rfl (hts0 _ (List.mem_of_getElem? (i := 193) (by decide +kernel))), List.forall_mem_cons.mpr ⟨va_Nw.of rfl (hts0 _ (List.mem_of_getElem? (i := 219) (by decide +kernel))), List.forall_mem_cons.mpr ⟨va_Nw.of rfl (hts0 _ (List.mem_of_getElem? (i := 235) (by decide +kernel))), List.forall_mem_cons.mpr ⟨va_Nw.of rfl (hts0 _ (List.mem_of_getElem? (i := 242) (by decide +kernel))), List.forall_mem_cons.mpr ⟨va_Nw.of rfl (hts0 _ (List.mem_of_getElem? (i := 253) (by decide +kernel))), List.forall_mem_cons.mpr ⟨va_Nw.of rfl (hts0 _ (List.mem_of_getElem? (i := 258) (by decide +kernel))), List.forall_mem_cons.mpr ⟨va_Nw.of rfl (hts0 _ (List.mem_of_getElem? (i := 262) (by decide +kernel))), List.forall_mem_cons.mpr ⟨va_Nw.of rfl (hts0 _ (List.mem_of_getElem? (i := 267) (by decide +kernel))), List.forall_mem_cons.mpr ⟨va_Nw.of rfl (hts0 _ (List.mem_of_getElem? (i := 412) (by decide +kernel))), List.forall_mem_cons.mpr ⟨va_Nw.of rfl (hts0 _ (List.mem_of_getElem? (i := 543) (by decide +kernel))), List.forall_mem_cons.mpr ⟨va_Nw.of rfl (hts0 _ (List.mem_of_getElem? (i := 729) (by decide +kernel))), List.forall_mem_cons.mpr ⟨va_Nw.of rfl (hts0 _ (List.mem_of_getElem? (i := 768) (by decide +kernel))), List.forall_mem_cons.mpr ⟨va_Nw.of rfl (hts0 _ (List.mem_of_getElem? (i := 514) (by decide +kernel))), List.forall_mem_cons.mpr ⟨va_Nw.of rfl (hts0 _ (List.mem_of_getElem? (i := 454) (by decide +kernel))), fun _ h => absurd h List.not_mem_nil⟩⟩⟩⟩⟩⟩⟩⟩⟩⟩⟩⟩⟩⟩⟩⟩⟩⟩
  have y1 : vx_Zq Bundle.tN "UNASSIGNED_STACK" Bundle.steD (fun q : Nat => s.heap.size ≤ q) s s.heap := vx_Zqof (hts0 _ (List.mem_of_getElem? (i := 346) (by decide +kernel))) (hts0 _ (List.mem_of_getElem? (i := 30) (by decide +kernel))) (hq (.isRef (.static "java/lang/Throwable" "UNASSIGNED_STACK" "[Ljava/lang/StackTraceElement;")) (by decide +kernel)) hA0
  have y2 : vx_Zq Bundle.tN "SUPPRESSED_SENTINEL" Bundle.listD (fun q : Nat => s.heap.size ≤ q) s s.heap := vx_Zqof (hts0 _ (List.mem_of_getElem? (i := 348) (by decide +kernel))) (hts0 _ (List.mem_of_getElem? (i := 30) (by decide +kernel))) (hq (.isRef (.static "java/lang/Throwable" "SUPPRESSED_SENTINEL" "Ljava/util/List;")) (by decide +kernel)) hA0
  exact ⟨hn, ⟨t1, Z1, T1⟩, ⟨t2, Z2, T2⟩, ⟨t3, Z3, T3⟩, ⟨y1, y2⟩, ⟨a1, vk_R.of s1 r1⟩, ⟨a2, vk_R.of s2 r2⟩, ⟨a3, vk_R.of s3 r3⟩, hcx⟩
end
section
/-! the run: 70 steps of the law over fives, each of them stops a vehicle at the section 5, lane 1, twice -/
abbrev R9 : Room := { frames := 16, cells := 400, slots := 4000, locals := 662 }
def fQ (below : List Frame) (s : State) : State → Prop := fun t => ∃ o, t.status = .running ∧ Ended t below o ∧ s.heap.size + 126 ≤ t.heap.size
theorem fQ_ret {p : Program} {l : Launch} {e : Env} {s : State} {m : MethodId} {below : List Frame} {meth : Method} {c : Code} {b : Nat} (hx : p.tables.exec = Jvm.exec) (hb : c.code = code) (hr : meth.sig.returnType = ret) (hlocks : meth.locks = false) {pc cells slots : Nat} {H : Heap} {locs : List Loc} {ls : Array Slot} (hz : s.heap.size + 126 ≤ H.size) (hdg : decode code pc = .ok (.ireturn, 1)) : W p l e R9 s m #[Value.ref b] below meth c H locs cells slots (fQ below s) (F0 m pc ls [.int 1]) := by
  intro T hT X
  obtain ⟨fs, hret, hrun, hended, hW, hframe⟩ := X.leave (v := some (.int 1)) (hlocks := hlocks) (fun h => by rw [hr] at h; cases h)
  have hmeth' : T.vm.method? m = some meth := X.method'
  refine ⟨T.setFrames fs, ?_, .returned (some (.int 1)), hrun, hended, ?_⟩
  · jvm_step X.here [X.here.top, hx, hb, hdg, hmeth', hr, ret, narrow_b1]
    (try refine ⟨rfl, ?_⟩); (try refine ⟨rfl, ?_⟩)
    first | (intro acts; rw [hret _ acts rfl rfl rfl]) | rw [hret _ _ rfl rfl rfl]
    exact Steps.refl _
  · show s.heap.size + 126 ≤ T.heap.size
    rw [hT]
    exact hz
abbrev nJ (k : Nat) : Int32 := Int32.ofNat k
theorem nJ_lt : ∀ k : Nat, k < 70 → ¬ (70 : Int32) ≤ nJ k := by decide +kernel
theorem nJ_s : ∀ k : Nat, k < 70 → nJ k + Int32.ofInt 1 = nJ (k + 1) := by decide +kernel
theorem nJ_d0 : ∀ k : Nat, k < 70 → ¬ (3 * nJ k < 0 ∨ 210 ≤ (3 * nJ k).toNatClampNeg) ∧ ¬ Int32.ofNat 210 ≤ 3 * nJ k := by decide +kernel
theorem nJ_d1 : ∀ k : Nat, k < 70 → ¬ (3 * nJ k + 1 < 0 ∨ 210 ≤ (3 * nJ k + 1).toNatClampNeg) ∧ ¬ Int32.ofNat 210 ≤ 3 * nJ k + 1 := by decide +kernel
theorem nJ_d2 : ∀ k : Nat, k < 70 → ¬ (3 * nJ k + 2 < 0 ∨ 210 ≤ (3 * nJ k + 2).toNatClampNeg) ∧ ¬ Int32.ofNat 210 ≤ 3 * nJ k + 2 := by decide +kernel
set_option maxHeartbeats 4000000 in
set_option maxRecDepth 100000 in
theorem lbody {p : Program} {e : Env} {s : State} {m : MethodId} {below : List Frame} {meth : Method} {c : Code} {l : Launch} (hl0 : l.stackTraces = false) {b : Nat} (C0 : lw_At p s m meth c b 210 (fun _ => 5)) {D : va_G} {cI cZ : ClassId} (hK : va_K D vwCl [(cI, .int), (cZ, .boolean)] s) (hZ : cst (fun q : Nat => s.heap.size ≤ q) s) {ad : Nat → Nat} {o : Nat} {f : Nat → Int32} {u u2 v2 u3 : GS} {lo cells slots k : Nat} (hk : k < 70) (hce : cells + 2 ≤ 400) (hsl : slots + 12 ≤ 4000) (hstep : MZ l yL_step (wm yL_step cL_step 18 (some .boolean)) rL_step D [(cI, .int), (cZ, .boolean)] (wD cI cZ ad o f u) (wD cI cZ ad o f u2) [.ref (ad 0), .ref o, .int 5, .int 5, .int 5] 1 2 12 lo) (hg : geqb u2 v2 = true) (hroad : g_L_isRoad v2 = some (.inl 1, u3)) {H : Heap} {locs : List Loc} {ls : Array Slot} (hP : va_P D vwCl (wD cI cZ ad o f u) H) (hD : va_D (fun q : Nat => s.heap.size ≤ q) (wD cI cZ ad o f u)) (hS : va_S (fun q : Nat => s.heap.size ≤ q) s.heap H locs) (hl : lv_has ls 6 [(5, .int (nJ k)), (4, .int 70), (3, .int 1), (2, .ref o), (1, .ref (ad 0)), (0, .ref b)]) (kk : ∀ (H1 : Heap) (locs : List Loc) (ls : Array Slot), va_P D vwCl (wD cI cZ ad o f u3) H1 → va_D (fun q : Nat => s.heap.size ≤ q) (wD cI cZ ad o f u3) → va_S (fun q : Nat => s.heap.size ≤ q) s.heap H1 locs → lv_has ls 6 [(5, .int (nJ (k + 1))), (4, .int 70), (3, .int 1), (2, .ref o), (1, .ref (ad 0)), (0, .ref b)] → H.size + lo ≤ H1.size → W p l e R9 s m #[Value.ref b] below meth c H1 locs (cells + 2) (slots + 12) (fQ below s) (F0 m 96 ls [])) : W p l e R9 s m #[Value.ref b] below meth c H locs cells slots (fQ below s) (F0 m 96 ls []) := by
  obtain ⟨hx, hb, hr, hml, hown, hts0, hX, hbl, hlocks, hgv⟩ := id C0
  have hts : ∀ w ∈ Wall, w.before #[Value.ref b] s = true := fun w h => hts0 w (wall_tbl w h)
  have hA : ∀ q : Nat, s.heap.size ≤ q → (fun q : Nat => s.heap.size ≤ q) q := fun q h => h
  have hbA : ¬ (fun q : Nat => s.heap.size ≤ q) b := Nat.not_le.mpr hbl
  refine lv_iload hx hb dL_law_96 (lv_at hl 0 rfl) ?_
  refine lv_iload hx hb dL_law_98 (lv_at hl 1 rfl) ?_
  refine lv_icmp_ge (tgt := 162) hx hb dL_law_100 (by decide) (fun c9 => absurd c9 (nJ_lt k hk)) (fun _ => ?_)
  refine lv_iload_n hx hb dL_law_103 rfl (lv_at hl 2 rfl) ?_
  refine lv_if_eq (tgt := 162) hx hb dL_law_104 (by decide) (fun c9 => absurd c9 (by decide)) (fun _ => ?_)
  refine lv_aload_n hx hb dL_law_107 rfl (lv_at hl 4 rfl) ?_
  refine lv_aload_n hx hb dL_law_108 rfl (lv_at hl 3 rfl) ?_
  refine lv_aload_n hx hb dL_law_109 rfl (lv_at hl 5 rfl) ?_
  refine lv_iconst (v := 3) hx hb dL_law_110 (by decide) ?_
  refine lv_iload hx hb dL_law_111 (lv_at hl 0 rfl) ?_
  refine lv_imul hx hb dL_law_113 ?_
  refine cc_draw (k := (3 * (nJ k))) (res := 5) (rest := [.ref o, .ref (ad 0)]) ⟨hx, hb, hml, hown, hts⟩ (k_L_draw l b 210 (fun _ => 5) (3 * (nJ k)) 5 (nJ_d0 k hk).1 (nJ_d0 k hk).2 (by decide)) (va_cwS 2 hts (gwS mw_482 mw_483 mw_18 mw_484) rfl rfl rfl (by decide +kernel) ⟨(Nat.le_of_ble_eq_true rfl), (Nat.le_of_ble_eq_true rfl)⟩) hX hbl hbA hP hS hA hl.1 rfl (Nat.le_of_ble_eq_true rfl) dL_law_114 ⟨by show cells ≤ 400; omega, by show slots ≤ 4000; omega⟩ (fun H1 locs hP hS hz1 => ?_)
  refine lv_aload_n hx hb dL_law_117 rfl (lv_at hl 5 rfl) ?_
  refine lv_iconst (v := 3) hx hb dL_law_118 (by decide) ?_
  refine lv_iload hx hb dL_law_119 (lv_at hl 0 rfl) ?_
  refine lv_imul hx hb dL_law_121 ?_
  refine lv_iconst (v := 1) hx hb dL_law_122 (by decide) ?_
  refine lv_iadd hx hb dL_law_123 ?_
  refine cc_draw (k := ((3 * (nJ k)) + 1)) (res := 5) (rest := [.int 5, .ref o, .ref (ad 0)]) ⟨hx, hb, hml, hown, hts⟩ (k_L_draw l b 210 (fun _ => 5) ((3 * (nJ k)) + 1) 5 (nJ_d1 k hk).1 (nJ_d1 k hk).2 (by decide)) (va_cwS 2 hts (gwS mw_482 mw_483 mw_18 mw_484) rfl rfl rfl (by decide +kernel) ⟨(Nat.le_of_ble_eq_true rfl), (Nat.le_of_ble_eq_true rfl)⟩) hX hbl hbA hP hS hA hl.1 rfl (Nat.le_of_ble_eq_true rfl) dL_law_124 ⟨by show cells ≤ 400; omega, by show slots ≤ 4000; omega⟩ (fun H2 locs hP hS hz2 => ?_)
  refine lv_aload_n hx hb dL_law_127 rfl (lv_at hl 5 rfl) ?_
  refine lv_iconst (v := 3) hx hb dL_law_128 (by decide) ?_
  refine lv_iload hx hb dL_law_129 (lv_at hl 0 rfl) ?_
  refine lv_imul hx hb dL_law_131 ?_
  refine lv_iconst (v := 2) hx hb dL_law_132 (by decide) ?_
  refine lv_iadd hx hb dL_law_133 ?_
  refine cc_draw (k := ((3 * (nJ k)) + 2)) (res := 5) (rest := [.int 5, .int 5, .ref o, .ref (ad 0)]) ⟨hx, hb, hml, hown, hts⟩ (k_L_draw l b 210 (fun _ => 5) ((3 * (nJ k)) + 2) 5 (nJ_d2 k hk).1 (nJ_d2 k hk).2 (by decide)) (va_cwS 2 hts (gwS mw_482 mw_483 mw_18 mw_484) rfl rfl rfl (by decide +kernel) ⟨(Nat.le_of_ble_eq_true rfl), (Nat.le_of_ble_eq_true rfl)⟩) hX hbl hbA hP hS hA hl.1 rfl (Nat.le_of_ble_eq_true rfl) dL_law_134 ⟨by show cells ≤ 400; omega, by show slots ≤ 4000; omega⟩ (fun H3 locs hP hS hz3 => ?_)
  refine cc_iSZ (As := [.ref (ad 0), .ref o, .int 5, .int 5, .int 5]) (rest := []) (wr := []) ⟨hx, hb, hml, hown, hts⟩ (hstep) (va_cwS 5 hts (gwS mw_488 mw_489 mw_18 mw_490) rfl rfl rfl (by decide +kernel) ⟨(Nat.le_of_ble_eq_true rfl), (Nat.le_of_ble_eq_true rfl)⟩) hK hP hD hS hA hZ [0, 1, 2, 3, 4, 5, 6, 7, 8, 9, 10, 11, 12, 13, 14, 15, 16, 17, 18, 19, 20, 21, 22, 23, 24, 25, 26, 27, 28, 29, 30, 31, 32, 33, 34, 35] [] rfl rfl (by decide) rfl (by decide) (by decide) rfl hl.1 rfl (Nat.le_of_ble_eq_true rfl) dL_law_137 ⟨by show cells + 2 ≤ 400; omega, by show slots + 12 ≤ 4000; omega⟩ (fun H4 locs hP hD hS hz4 => ?_)
  replace hP : va_P D vwCl (wD cI cZ ad o f u2) H4 := hP
  replace hD : va_D (fun q : Nat => s.heap.size ≤ q) (wD cI cZ ad o f u2) := hD
  replace hP : va_P D vwCl (wD cI cZ ad o f v2) H4 := wD_sw hg hP
  replace hD : va_D (fun q : Nat => s.heap.size ≤ q) (wD cI cZ ad o f v2) := wD_swD hD
  refine lv_if_eq (tgt := 154) hx hb dL_law_140 (by decide) (fun c9 => absurd c9 (by decide)) (fun _ => ?_)
  refine lv_aload_n hx hb dL_law_143 rfl (lv_at hl 4 rfl) ?_
  refine cc_iSM (As := [.ref (ad 0)]) (rest := []) (wr := [(o, .inl (cI, 4, .inl f))]) ⟨hx, hb, hml, hown, hts⟩ (k_L_isRoad l D cI cZ ad v2 hroad) (va_cwS 1 hts (gwS mw_782 mw_783 mw_18 mw_784) rfl rfl rfl (by decide +kernel) ⟨(Nat.le_of_ble_eq_true rfl), (Nat.le_of_ble_eq_true rfl)⟩) hK hP hD hS hA hZ [1, 2, 3, 4, 5, 6, 7, 8, 9, 10, 11, 12, 13, 14, 15, 16, 17, 18, 19, 20, 21, 22, 23, 24, 25, 26, 27, 28, 29, 30, 31, 32, 33, 34, 35] [0] rfl rfl (by decide) rfl (by decide) (by decide) rfl hl.1 rfl (Nat.le_of_ble_eq_true rfl) dL_law_144 ⟨by show cells + 2 ≤ 400; omega, by show slots + 12 ≤ 4000; omega⟩ (fun H5 locs hP hD hS hz5 => ?_)
  replace hP : va_P D vwCl (wD cI cZ ad o f u3) H5 := hP
  replace hD : va_D (fun q : Nat => s.heap.size ≤ q) (wD cI cZ ad o f u3) := hD
  refine lv_if_eq (tgt := 154) hx hb dL_law_147 (by decide) (fun c9 => absurd c9 (by decide)) (fun _ => ?_)
  refine lv_iconst (v := 1) hx hb dL_law_150 (by decide) ?_
  refine lv_goto (tgt := 155) hx hb dL_law_151 (by decide) ?_
  refine lv_istore_n (lv' := [(3, .int 1), (5, .int (nJ k)), (4, .int 70), (2, .ref o), (1, .ref (ad 0)), (0, .ref b)]) hx hb dL_law_155 rfl hl (by decide) rfl (fun ls hl => ?_)
  refine lv_iinc (v := nJ (k + 1)) (lv' := [(5, .int (nJ (k + 1))), (3, .int 1), (4, .int 70), (2, .ref o), (1, .ref (ad 0)), (0, .ref b)]) hx hb dL_law_156 hl (k := 1) rfl (nJ_s k hk) (by decide) rfl (fun ls hl => ?_)
  refine lv_goto (tgt := 96) hx hb dL_law_159 (by decide) ?_
  exact kk H5 locs ls hP hD hS (lv_sub hl [0, 2, 1, 3, 4, 5] rfl) (by omega)
set_option maxHeartbeats 4000000 in
set_option maxRecDepth 100000 in
theorem lloop {p : Program} {e : Env} {s : State} {m : MethodId} {below : List Frame} {meth : Method} {c : Code} {l : Launch} (hl0 : l.stackTraces = false) {b : Nat} (C0 : lw_At p s m meth c b 210 (fun _ => 5)) {D : va_G} {cI cZ : ClassId} (hK : va_K D vwCl [(cI, .int), (cZ, .boolean)] s) (hZ : cst (fun q : Nat => s.heap.size ≤ q) s) {ad : Nat → Nat} {o : Nat} {f : Nat → Int32} : ∀ (n k : Nat), k + n = 70 → 1 ≤ k → ∀ (H : Heap) (locs : List Loc) (ls : Array Slot), va_P D vwCl (wD cI cZ ad o f uS) H → va_D (fun q : Nat => s.heap.size ≤ q) (wD cI cZ ad o f uS) → va_S (fun q : Nat => s.heap.size ≤ q) s.heap H locs → lv_has ls 6 [(5, .int (nJ k)), (4, .int 70), (3, .int 1), (2, .ref o), (1, .ref (ad 0)), (0, .ref b)] → s.heap.size + 2 * k ≤ H.size + 1 → W p l e R9 s m #[Value.ref b] below meth c H locs (36 + 2 * k) (1187 + 12 * k) (fQ below s) (F0 m 96 ls []) := by
  intro n
  induction n with
  | zero =>
    intro k hk1 hk2 H locs ls hP hD hS hl hz
    obtain rfl : k = 70 := by omega
    obtain ⟨hx, hb, hr, hml, hown, hts0, hX, hbl, hlocks, hgv⟩ := id C0
    replace hl : lv_has ls 6 [(5, .int 70), (4, .int 70), (3, .int 1), (2, .ref o), (1, .ref (ad 0)), (0, .ref b)] := hl
    refine lv_iload hx hb dL_law_96 (lv_at hl 0 rfl) ?_
    refine lv_iload hx hb dL_law_98 (lv_at hl 1 rfl) ?_
    refine lv_icmp_ge (tgt := 162) hx hb dL_law_100 (by decide) (fun _ => ?_) (fun c9 => absurd (by decide) c9)
    refine lv_iload_n hx hb dL_law_162 rfl (lv_at hl 2 rfl) ?_
    exact fQ_ret hx hb hr hlocks (by omega) dL_law_163
  | succ n ih =>
    intro k hk1 hk2 H locs ls hP hD hS hl hz
    obtain ⟨w1, e1, h1⟩ := ox_e ev_stopB
    obtain ⟨w2, e2, h2⟩ := ox_e h1
    obtain ⟨w3, e3, h3⟩ := ox_r ev_road
    refine lbody hl0 C0 hK hZ (u := uS) (u2 := w2) (v2 := uS) (lo := 2) (show k < 70 by omega) (by omega) (by omega) (kB_L_step l hl0 D cI cZ ad o f e1 e2) h2 e3 hP hD hS hl (fun H1 locs ls hP hD hS hl hz1 => ?_)
    rw [show 36 + 2 * k + 2 = 36 + 2 * (k + 1) by omega, show 1187 + 12 * k + 12 = 1187 + 12 * (k + 1) by omega]
    exact ih (k + 1) (by omega) (by omega) H1 locs ls (wD_sw h3 hP) (wD_swD hD) hS hl (by omega)
set_option maxHeartbeats 4000000 in
set_option maxRecDepth 100000 in
theorem whole_run {p : Program} {e : Env} {s : State} {m : MethodId} {below : List Frame} {meth : Method} {c : Code} (l : Launch) (hflags : l.flags = flags0) {b : Nat} (C0 : lw_At p s m meth c b 210 (fun _ => 5)) : W p l e R9 s m #[Value.ref b] below meth c s.heap [] 0 0 (fQ below s) (entryFrame m ([Value.ref b] : List Value).toArray 6) := by
  obtain ⟨hx, hb, hr, hml, hown, hts0, hX, hbl, hlocks, hgv⟩ := id C0
  have hts : ∀ w ∈ Wall, w.before #[Value.ref b] s = true := fun w h => hts0 w (wall_tbl w h)
  have hA : ∀ q : Nat, s.heap.size ≤ q → (fun q : Nat => s.heap.size ≤ q) q := fun q h => h
  have hbA : ¬ (fun q : Nat => s.heap.size ≤ q) b := Nat.not_le.mpr hbl
  have hl0 : l.stackTraces = false := by
    rw [Launch.stackTraces, hflags]
    decide +kernel
  obtain ⟨D, cI, cZ, hK⟩ := st_K hts
  have hZ : cst (fun q : Nat => s.heap.size ≤ q) s := st_cst hts0 hgv (hK.1 9 _ rfl).2.1
  obtain ⟨w7, hi7, g7⟩ := ob_ex ev_init
  obtain ⟨w3, hi3, g3⟩ := ob_ex g7
  obtain ⟨w6, hi6, g6⟩ := ob_ex g3
  obtain ⟨w9, hi9, g9⟩ := ob_ex g6
  have hS : va_S (fun q : Nat => s.heap.size ≤ q) s.heap s.heap [] := va_S.rf
  have hP : va_P D vwCl [] s.heap := fun k q h => by simp at h
  have hD : va_D (fun q : Nat => s.heap.size ≤ q) [] := ⟨fun i j p q h => by simp at h, fun k q h => by simp at h⟩
  have hl := lv_entry ([.ref b]) (n := 6) (Nat.le_of_ble_eq_true rfl)
  rw [lg_entry_eq]
  generalize (lg_sl ([.ref b]) ++ List.replicate (6 - (lg_sl ([.ref b])).length) Slot.unset).toArray = ls at hl ⊢
  replace hl : lv_has ls 6 [(0, .ref b)] := hl
  refine va_new (ci := 9) (fs := [.int 0, .null, .null, .null, .null, .null, .null, .null, .null, .null]) (C := RX9) (T := TX9) (N := 10) hx hb hts iX9 tyX9 tyX9_ok hown (hts _ mw_36) (hts _ mw_37) (hts _ mw_19) hK hP hD hS hA rfl (fun j hj => by rcases (show j = 0 ∨ j = 1 ∨ j = 2 ∨ j = 3 ∨ j = 4 ∨ j = 5 ∨ j = 6 ∨ j = 7 ∨ j = 8 ∨ j = 9 by omega) with rfl | rfl | rfl | rfl | rfl | rfl | rfl | rfl | rfl | rfl <;> rfl) (Nat.le_of_ble_eq_true rfl) (Nat.le_of_ble_eq_true rfl) dL_law_0 (fun q0 H hP hD hS => ?_)
  refine W.widen (k := 1) (n := 10) (Nat.le_of_ble_eq_true rfl) (Nat.le_of_ble_eq_true rfl) ?_
  replace hP : va_P D vwCl [(q0, .inr (9, [.int 0, .null, .null, .null, .null, .null, .null, .null, .null, .null]))] H := hP
  replace hD : va_D (fun q : Nat => s.heap.size ≤ q) [(q0, .inr (9, [.int 0, .null, .null, .null, .null, .null, .null, .null, .null, .null]))] := hD
  refine lv_dup hx hb dL_law_3 rfl ?_
  refine cc_cI (rest := [.ref q0]) (wr := []) ⟨hx, hb, hml, hown, hts⟩ (kc_X9 l D cI cZ q0 w7 hi7 w3 hi3 w6 hi6 w9 hi9) (cwI 0 hts (gwM mw_40) rfl rfl rfl (hts _ mw_19) (hts _ mw_38) (hts _ mw_39) rfl (by decide +kernel) ⟨(Nat.le_of_ble_eq_true rfl), (Nat.le_of_ble_eq_true rfl)⟩) hK hP hD hS hA hZ [0] [] rfl rfl (by decide) rfl (by decide) (by decide) hl.1 rfl (Nat.le_of_ble_eq_true rfl) dL_law_4 ⟨(Nat.le_of_ble_eq_true rfl), (Nat.le_of_ble_eq_true rfl)⟩ (fun ad H locs ead hP9 hD9 hS => ?_)
  subst ead
  refine W.widen (k := 35) (n := 1183) (Nat.le_of_ble_eq_true rfl) (Nat.le_of_ble_eq_true rfl) ?_
  replace hP : va_P D vwCl (wC cI cZ ad uI) H := wC_sw g9 hP9
  replace hD : va_D (fun q : Nat => s.heap.size ≤ q) (wC cI cZ ad uI) := wC_swD hD9
  refine lv_astore_n (lv' := [(1, .ref (ad 0)), (0, .ref b)]) hx hb dL_law_7 rfl hl (by decide) rfl (fun ls hl => ?_)
  refine lv_iconst (v := 4) hx hb dL_law_8 (by decide) ?_
  refine va_newa (atype := .int) (ty := .int) (a0 := (4, .inl (fun _ => 0))) hx hb (hts _ mw_79) rfl hK hP hD hS hA (fun _ => rfl) (by decide) (by decide) (Nat.le_of_ble_eq_true rfl) (Nat.le_of_ble_eq_true rfl) (Nat.le_of_ble_eq_true rfl) dL_law_9 (fun o cA H hK9 hP hD hS => ?_)
  obtain rfl : cI = cA := cls_int hK9 0 2 rfl rfl
  clear hK9
  refine W.widen (k := 36) (n := 1187) (Nat.le_of_ble_eq_true rfl) (Nat.le_of_ble_eq_true rfl) ?_
  obtain ⟨f, ef⟩ : ∃ f : Nat → Int32, f = (fun _ => 0) := ⟨_, rfl⟩
  replace hP : va_P D vwCl (wD cI cZ ad o f uI) H := by rw [ef]; exact hP.sub [35, 0, 1, 2, 3, 4, 5, 6, 7, 8, 9, 10, 11, 12, 13, 14, 15, 16, 17, 18, 19, 20, 21, 22, 23, 24, 25, 26, 27, 28, 29, 30, 31, 32, 33, 34] rfl
  replace hD : va_D (fun q : Nat => s.heap.size ≤ q) (wD cI cZ ad o f uI) := by rw [ef]; exact hD.sub [35, 0, 1, 2, 3, 4, 5, 6, 7, 8, 9, 10, 11, 12, 13, 14, 15, 16, 17, 18, 19, 20, 21, 22, 23, 24, 25, 26, 27, 28, 29, 30, 31, 32, 33, 34] (by decide) rfl
  refine lv_astore_n (lv' := [(2, .ref o), (1, .ref (ad 0)), (0, .ref b)]) hx hb dL_law_11 rfl hl (by decide) rfl (fun ls hl => ?_)
  obtain ⟨x1, e1, g1⟩ := wi_r (x := g_X9_isLawful uI) (r := 1) (f := fun w => geqb w uI) ev_lawful
  refine lv_aload_n hx hb dL_law_12 rfl (lv_at hl 1 rfl) ?_
  refine cc_iVM (As := []) (rest := []) (wr := [(o, .inl (cI, 4, .inl f))]) ⟨hx, hb, hml, hown, hts⟩ (k_X9_isLawful l D cI cZ ad uI e1) (cwV 0 hts (gwV mw_392 mw_393 mw_394 mw_19 mw_395) rfl rfl rfl (by decide +kernel) ⟨(Nat.le_of_ble_eq_true rfl), (Nat.le_of_ble_eq_true rfl)⟩) hK hP hD hS hA hZ [1, 2, 3, 4, 5, 6, 7, 8, 9, 10, 11, 12, 13, 14, 15, 16, 17, 18, 19, 20, 21, 22, 23, 24, 25, 26, 27, 28, 29, 30, 31, 32, 33, 34, 35] [0] rfl rfl (by decide) rfl (by decide) (by decide) (ci := 9) (q0 := 0) rfl rfl rfl hl.1 rfl (Nat.le_of_ble_eq_true rfl) dL_law_13 ⟨(Nat.le_of_ble_eq_true rfl), (Nat.le_of_ble_eq_true rfl)⟩ (fun H1 locs hP hD hS hz1 => ?_)
  replace hP : va_P D vwCl (wD cI cZ ad o f x1) H1 := hP
  replace hD : va_D (fun q : Nat => s.heap.size ≤ q) (wD cI cZ ad o f x1) := hD
  replace hP : va_P D vwCl (wD cI cZ ad o f uI) H1 := wD_sw g1 hP
  replace hD : va_D (fun q : Nat => s.heap.size ≤ q) (wD cI cZ ad o f uI) := wD_swD hD
  refine lv_if_eq (tgt := 71) hx hb dL_law_16 (by decide) (fun c9 => absurd c9 (by decide)) (fun _ => ?_)
  refine lv_aload_n hx hb dL_law_19 rfl (lv_at hl 1 rfl) ?_
  refine cc_iVM (As := []) (rest := []) (wr := [(o, .inl (cI, 4, .inl f))]) ⟨hx, hb, hml, hown, hts⟩ (k_X9_pattern l D cI cZ ad uI ev_pattern) (cwV 0 hts (gwV mw_404 mw_405 mw_406 mw_19 mw_407) rfl rfl rfl (by decide +kernel) ⟨(Nat.le_of_ble_eq_true rfl), (Nat.le_of_ble_eq_true rfl)⟩) hK hP hD hS hA hZ [1, 2, 3, 4, 5, 6, 7, 8, 9, 10, 11, 12, 13, 14, 15, 16, 17, 18, 19, 20, 21, 22, 23, 24, 25, 26, 27, 28, 29, 30, 31, 32, 33, 34, 35] [0] rfl rfl (by decide) rfl (by decide) (by decide) (ci := 9) (q0 := 0) rfl rfl rfl hl.1 rfl (Nat.le_of_ble_eq_true rfl) dL_law_20 ⟨(Nat.le_of_ble_eq_true rfl), (Nat.le_of_ble_eq_true rfl)⟩ (fun H2 locs hP hD hS hz2 => ?_)
  replace hP : va_P D vwCl (wD cI cZ ad o f uI) H2 := hP
  replace hD : va_D (fun q : Nat => s.heap.size ≤ q) (wD cI cZ ad o f uI) := hD
  obtain ⟨x2, e2, g2⟩ := ox_r ev_sign1
  refine lv_iconst (v := (-1)) hx hb dL_law_23 (by decide) ?_
  refine lv_icmp_ne (tgt := 71) hx hb dL_law_24 (by decide) (fun c9 => absurd rfl c9) (fun _ => ?_)
  refine lv_aload_n hx hb dL_law_27 rfl (lv_at hl 1 rfl) ?_
  refine lv_iconst (v := 0) hx hb dL_law_28 (by decide) ?_
  refine lv_iconst (v := 0) hx hb dL_law_29 (by decide) ?_
  refine cc_iVM (As := [.int 0, .int 0]) (rest := []) (wr := [(o, .inl (cI, 4, .inl f))]) ⟨hx, hb, hml, hown, hts⟩ (k_X9_sign l D cI cZ ad uI 0 0 e2) (cwV 2 hts (gwV mw_305 mw_306 mw_307 mw_19 mw_308) rfl rfl rfl (by decide +kernel) ⟨(Nat.le_of_ble_eq_true rfl), (Nat.le_of_ble_eq_true rfl)⟩) hK hP hD hS hA hZ [1, 2, 3, 4, 5, 6, 7, 8, 9, 10, 11, 12, 13, 14, 15, 16, 17, 18, 19, 20, 21, 22, 23, 24, 25, 26, 27, 28, 29, 30, 31, 32, 33, 34, 35] [0] rfl rfl (by decide) rfl (by decide) (by decide) (ci := 9) (q0 := 0) rfl rfl rfl hl.1 rfl (Nat.le_of_ble_eq_true rfl) dL_law_30 ⟨(Nat.le_of_ble_eq_true rfl), (Nat.le_of_ble_eq_true rfl)⟩ (fun H3 locs hP hD hS hz3 => ?_)
  replace hP : va_P D vwCl (wD cI cZ ad o f x2) H3 := hP
  replace hD : va_D (fun q : Nat => s.heap.size ≤ q) (wD cI cZ ad o f x2) := hD
  replace hP : va_P D vwCl (wD cI cZ ad o f uI) H3 := wD_sw g2 hP
  replace hD : va_D (fun q : Nat => s.heap.size ≤ q) (wD cI cZ ad o f uI) := wD_swD hD
  obtain ⟨x3, e3, g3⟩ := ox_r ev_sign2
  refine lv_iconst (v := 2) hx hb dL_law_33 (by decide) ?_
  refine lv_icmp_ne (tgt := 71) hx hb dL_law_34 (by decide) (fun c9 => absurd rfl c9) (fun _ => ?_)
  refine lv_aload_n hx hb dL_law_37 rfl (lv_at hl 1 rfl) ?_
  refine lv_bipush (v := 11) hx hb dL_law_38 (by decide) ?_
  refine lv_iconst (v := 3) hx hb dL_law_40 (by decide) ?_
  refine cc_iVM (As := [.int 11, .int 3]) (rest := []) (wr := [(o, .inl (cI, 4, .inl f))]) ⟨hx, hb, hml, hown, hts⟩ (k_X9_sign l D cI cZ ad uI 11 3 e3) (cwV 2 hts (gwV mw_305 mw_306 mw_307 mw_19 mw_308) rfl rfl rfl (by decide +kernel) ⟨(Nat.le_of_ble_eq_true rfl), (Nat.le_of_ble_eq_true rfl)⟩) hK hP hD hS hA hZ [1, 2, 3, 4, 5, 6, 7, 8, 9, 10, 11, 12, 13, 14, 15, 16, 17, 18, 19, 20, 21, 22, 23, 24, 25, 26, 27, 28, 29, 30, 31, 32, 33, 34, 35] [0] rfl rfl (by decide) rfl (by decide) (by decide) (ci := 9) (q0 := 0) rfl rfl rfl hl.1 rfl (Nat.le_of_ble_eq_true rfl) dL_law_41 ⟨(Nat.le_of_ble_eq_true rfl), (Nat.le_of_ble_eq_true rfl)⟩ (fun H4 locs hP hD hS hz4 => ?_)
  replace hP : va_P D vwCl (wD cI cZ ad o f x3) H4 := hP
  replace hD : va_D (fun q : Nat => s.heap.size ≤ q) (wD cI cZ ad o f x3) := hD
  replace hP : va_P D vwCl (wD cI cZ ad o f uI) H4 := wD_sw g3 hP
  replace hD : va_D (fun q : Nat => s.heap.size ≤ q) (wD cI cZ ad o f uI) := wD_swD hD
  obtain ⟨x4, e4, g4⟩ := ox_r ev_proof
  refine lv_if_ne (tgt := 71) hx hb dL_law_44 (by decide) (fun c9 => absurd rfl c9) (fun _ => ?_)
  refine lv_aload_n hx hb dL_law_47 rfl (lv_at hl 1 rfl) ?_
  refine lv_iconst (v := 0) hx hb dL_law_48 (by decide) ?_
  refine lv_iconst (v := 5) hx hb dL_law_49 (by decide) ?_
  refine lv_iconst (v := 0) hx hb dL_law_50 (by decide) ?_
  refine cc_iVM (As := [.int 0, .int 5, .int 0]) (rest := []) (wr := [(o, .inl (cI, 4, .inl f))]) ⟨hx, hb, hml, hown, hts⟩ (k_X9_proof l D cI cZ ad uI 0 5 0 e4) (cwV 3 hts (gwV mw_428 mw_429 mw_430 mw_19 mw_431) rfl rfl rfl (by decide +kernel) ⟨(Nat.le_of_ble_eq_true rfl), (Nat.le_of_ble_eq_true rfl)⟩) hK hP hD hS hA hZ [1, 2, 3, 4, 5, 6, 7, 8, 9, 10, 11, 12, 13, 14, 15, 16, 17, 18, 19, 20, 21, 22, 23, 24, 25, 26, 27, 28, 29, 30, 31, 32, 33, 34, 35] [0] rfl rfl (by decide) rfl (by decide) (by decide) (ci := 9) (q0 := 0) rfl rfl rfl hl.1 rfl (Nat.le_of_ble_eq_true rfl) dL_law_51 ⟨(Nat.le_of_ble_eq_true rfl), (Nat.le_of_ble_eq_true rfl)⟩ (fun H5 locs hP hD hS hz5 => ?_)
  replace hP : va_P D vwCl (wD cI cZ ad o f x4) H5 := hP
  replace hD : va_D (fun q : Nat => s.heap.size ≤ q) (wD cI cZ ad o f x4) := hD
  replace hP : va_P D vwCl (wD cI cZ ad o f uI) H5 := wD_sw g4 hP
  replace hD : va_D (fun q : Nat => s.heap.size ≤ q) (wD cI cZ ad o f uI) := wD_swD hD
  obtain ⟨x5, e5, g5⟩ := ox_r ev_shown
  refine lv_bipush (v := 120) hx hb dL_law_54 (by decide) ?_
  refine lv_icmp_ne (tgt := 71) hx hb dL_law_56 (by decide) (fun c9 => absurd rfl c9) (fun _ => ?_)
  refine lv_aload_n hx hb dL_law_59 rfl (lv_at hl 1 rfl) ?_
  refine lv_iconst (v := 0) hx hb dL_law_60 (by decide) ?_
  refine cc_iSM (As := [.ref (ad 0), .int 0]) (rest := []) (wr := [(o, .inl (cI, 4, .inl f))]) ⟨hx, hb, hml, hown, hts⟩ (k_L_isShown l D cI cZ ad uI 0 e5) (va_cwS 2 hts (gwS mw_779 mw_780 mw_18 mw_781) rfl rfl rfl (by decide +kernel) ⟨(Nat.le_of_ble_eq_true rfl), (Nat.le_of_ble_eq_true rfl)⟩) hK hP hD hS hA hZ [1, 2, 3, 4, 5, 6, 7, 8, 9, 10, 11, 12, 13, 14, 15, 16, 17, 18, 19, 20, 21, 22, 23, 24, 25, 26, 27, 28, 29, 30, 31, 32, 33, 34, 35] [0] rfl rfl (by decide) rfl (by decide) (by decide) rfl hl.1 rfl (Nat.le_of_ble_eq_true rfl) dL_law_61 ⟨(Nat.le_of_ble_eq_true rfl), (Nat.le_of_ble_eq_true rfl)⟩ (fun H6 locs hP hD hS hz6 => ?_)
  replace hP : va_P D vwCl (wD cI cZ ad o f x5) H6 := hP
  replace hD : va_D (fun q : Nat => s.heap.size ≤ q) (wD cI cZ ad o f x5) := hD
  replace hP : va_P D vwCl (wD cI cZ ad o f uI) H6 := wD_sw g5 hP
  replace hD : va_D (fun q : Nat => s.heap.size ≤ q) (wD cI cZ ad o f uI) := wD_swD hD
  refine lv_if_eq (tgt := 71) hx hb dL_law_64 (by decide) (fun c9 => absurd c9 (by decide)) (fun _ => ?_)
  refine lv_iconst (v := 1) hx hb dL_law_67 (by decide) ?_
  refine lv_goto (tgt := 72) hx hb dL_law_68 (by decide) ?_
  refine lv_istore_n (lv' := [(3, .int 1), (2, .ref o), (1, .ref (ad 0)), (0, .ref b)]) hx hb dL_law_72 rfl hl (by decide) rfl (fun ls hl => ?_)
  refine lv_aload_n hx hb dL_law_73 rfl (lv_at hl 3 rfl) ?_
  refine va_slen hx hb hX hbl hbA hS dL_law_74 ?_
  refine lv_topn (x := Int32.ofNat 210) (y := 210) (by decide +kernel) ?_
  refine lv_iconst (v := 3) hx hb dL_law_75 (by decide) ?_
  refine lv_idiv hx hb dL_law_76 (by decide) ?_
  refine lv_topn (x := (210 / 3)) (y := 70) (by decide +kernel) ?_
  refine lv_bipush (v := 70) hx hb dL_law_77 (by decide) ?_
  refine lv_icmp_le (tgt := 87) hx hb dL_law_79 (by decide) (fun _ => ?_) (fun c9 => absurd (by decide) c9)
  refine lv_aload_n hx hb dL_law_87 rfl (lv_at hl 3 rfl) ?_
  refine va_slen hx hb hX hbl hbA hS dL_law_88 ?_
  refine lv_topn (x := Int32.ofNat 210) (y := 210) (by decide +kernel) ?_
  refine lv_iconst (v := 3) hx hb dL_law_89 (by decide) ?_
  refine lv_idiv hx hb dL_law_90 (by decide) ?_
  refine lv_topn (x := (210 / 3)) (y := 70) (by decide +kernel) ?_
  refine lv_istore (lv' := [(4, .int 70), (3, .int 1), (2, .ref o), (1, .ref (ad 0)), (0, .ref b)]) hx hb dL_law_91 hl (by decide) rfl (fun ls hl => ?_)
  refine lv_iconst (v := 0) hx hb dL_law_93 (by decide) ?_
  refine lv_istore (lv' := [(5, .int 0), (4, .int 70), (3, .int 1), (2, .ref o), (1, .ref (ad 0)), (0, .ref b)]) hx hb dL_law_94 hl (by decide) rfl (fun ls hl => ?_)
  replace hl : lv_has ls 6 [(5, .int (nJ 0)), (4, .int 70), (3, .int 1), (2, .ref o), (1, .ref (ad 0)), (0, .ref b)] := lv_sub hl [0, 1, 2, 3, 4, 5] rfl
  have hz0 : s.heap.size ≤ H6.size := hS.1
  obtain ⟨y1, a1, q1⟩ := ob_ex ev_stopA
  obtain ⟨q2, q3⟩ := Bool.and_eq_true_iff.mp q1
  obtain ⟨y2, a2, q4⟩ := ox_e q3
  obtain ⟨y3, a3, q5⟩ := ox_r ev_road
  obtain ⟨y0, y1⟩ := y1
  cases y0 with
  | inr E => cases q2
  | inl r =>
    refine lbody hl0 C0 hK hZ (u := uI) (u2 := y2) (v2 := uS) (lo := 1) (cells := 36) (slots := 1187) (k := 0) (by decide) (by decide) (by decide) (kA_L_step l hl0 D cI cZ ad o f a1 a2) q4 a3 hP hD hS hl (fun H9 locs ls hP hD hS hl hz9 => ?_)
    exact lloop hl0 C0 hK hZ 69 1 (by decide) (Nat.le_refl _) H9 locs ls (wD_sw q5 hP) (wD_swD hD) hS hl (by omega)
end
section
/-! out of the walk: a free contract of the law over the script -/
def fP (b : Addr) (args : Array Value) (s : State) : Prop := args = #[.ref b] ∧ va_X b 210 (fun _ => 5) s s.heap ∧ (Jvm.Cond.and given_1 narrow_1).before args s = true
set_option maxHeartbeats 4000000 in
theorem i_walk (l : Launch) (hflags : l.flags = flags0) (b : Addr) : MetFree l x (headSpec (Jvm.Cond.code x code maxLocals ret :: tables_1) R9) (fP b) (fun _ _ _ _ _ => True) (fun _ s _ t => s.heap.size + 126 ≤ t.heap.size) := by
  refine MetFree.of_bodyS (code := code) (maxLocals := maxLocals) (ret := ret) (by decide) ?_ ?_
  · intro args s m h hn
    obtain ⟨meth, c, h1, h2, h3, h4, h5, h6, -, -⟩ := Cond.code_spec hn (atoms_spec (ws := Jvm.Cond.code x code maxLocals ret :: tables_1) h _ List.mem_cons_self)
    exact ⟨meth, c, h1, h2, h3, h4, h5, h6⟩
  · intro p e s m args below meth c s₁ B hml0 hP _
    obtain ⟨rfl, hX, hgv⟩ := hP
    have hown : s.vm.findClass R_law = some m.cls := findClass_of_methodNamed B.named
    have hts0 : ∀ c ∈ (Jvm.Cond.code x code maxLocals ret :: tables_1), c.before #[Value.ref b] s = true := atoms_spec (ws := Jvm.Cond.code x code maxLocals ret :: tables_1) B.pre
    have hts : ∀ w ∈ lw_tbl, w.before #[Value.ref b] s = true := k2_hts_sels lw_privs (fun w hw => hts0 w (List.mem_cons_of_mem _ hw)) lw_privs_ok
    have hml : c.maxLocals = 6 := B.maxLocals_eq (hts0 _ List.mem_cons_self)
    have X₀ : Stand p l e R9 s m #[Value.ref b] below meth c s₁ [] 0 0 := Stand.of_body B
    have hh0 : s₁.heap = s.heap := by rw [B.state]; rfl
    have hbl : b < s.heap.size := (Array.getElem?_eq_some_iff.mp hX.choose_spec.1).1
    have K : W p l e R9 s m #[Value.ref b] below meth c s₁.heap [] 0 0 (fQ below s) (entryFrame m ([Value.ref b] : List Value).toArray 6) := by
      rw [hh0]
      exact whole_run l hflags ⟨B.exec, B.bytes, B.returns, hml, hown, hts, hX, hbl, B.notSynchronized, hgv⟩
    obtain ⟨t, a1, o, b1, b2, b3⟩ := K s₁ rfl X₀
    exact ⟨t, o, a1, b1, b2, b3⟩
end
section
/-! THE CLAIM IS FALSE AS IT IS PRINTED: at a script of 210 fives the law returns, and has made 126 cells and more; the claim's frame allows 125. The start is the printed witness's own but for the script. -/
def s5 : Array Value := Array.ofFn (n := 210) fun _ => .int 5
def st5 : State := start1.aboutOf s5
set_option maxRecDepth 100000 in
theorem st5_vm (a b : Array Value) : (start1.aboutOf a).vm = (start1.aboutOf b).vm := rfl
set_option maxRecDepth 100000 in
theorem st5_warm : start1.about.WarmedH st5.vm := by
  have e : st5.vm = start1.about.vm := st5_vm s5 start1.cells0
  rw [e]
  exact State.WarmedH.refl start1.about
set_option maxRecDepth 16384 in
theorem st5_rest : ((Jvm.Cond.code x code maxLocals ret :: tables_1).filter (fun c => !goodWord c)).all (fun c => c.before start1.args0 st5) = true := by decide +kernel
theorem st5_words : ∀ c ∈ (Jvm.Cond.code x code maxLocals ret :: tables_1), c.before start1.args0 st5 = true := by
  intro c hc
  cases hg : goodWord c with
  | true => exact word_at st5_warm (good_of_word hg) (start1.words c hc)
  | false => exact List.all_eq_true.mp st5_rest c (List.mem_filter.mpr ⟨hc, by rw [hg]; rfl⟩)
set_option maxRecDepth 16384 in
theorem st5_atStart : AtStart classFile x code maxLocals ret World_1 tables_1 room_1 Calls_1 rest_1 Pre_1 launch0 start1.p0 start1.e0 st5 ⟨0, 0⟩ start1.args0 Lib.HandBits.below0 :=
  ⟨lists_1, trivial, launch0.admits_env _ _ _, launch0.least_env, fairChoices_fair.cas, fairChoices_fair.clock, rfl, by decide +kernel, by decide +kernel,
    (Spec.applies_iff rfl).mpr ⟨rfl, rfl, rfl, by decide +kernel, by decide +kernel, by decide +kernel, launch0.hasRoom_least _ room_1 (by decide +kernel) (by decide +kernel) (by decide +kernel) (by decide +kernel) (by decide +kernel) (by decide +kernel), atoms_intro st5_words⟩,
    trivial, (show rest_1_c.before start1.args0 st5 = true by decide +kernel), (show (Cond.and given_1 narrow_1).before start1.args0 st5 = true by decide +kernel)⟩
set_option maxRecDepth 16384 in
theorem st5_R9 : (headSpec (Jvm.Cond.code x code maxLocals ret :: tables_1) R9).applies x start1.e0.platform st5 = true :=
  (Spec.applies_iff rfl).mpr ⟨rfl, rfl, rfl, by decide +kernel, by decide +kernel, by decide +kernel, launch0.hasRoom_least _ R9 (by decide +kernel) (by decide +kernel) (by decide +kernel) (by decide +kernel) (by decide +kernel) (by decide +kernel), atoms_intro st5_words⟩
theorem s5_size : s5.size = 210 := by rw [s5, Array.size_ofFn]
theorem s5_at (j : Nat) (hj : j < 210) : s5[j]? = some (.int 5) := by rw [s5, Array.getElem?_ofFn, dif_pos hj]
set_option maxRecDepth 100000 in
theorem st5_cell (a : Array Value) : (start1.aboutOf a).heap[0]? = some { cls := 21, slots := a, vm := .none } := rfl
set_option maxRecDepth 100000 in
theorem st5_arr (a : Array Value) : (start1.aboutOf a).isArrayOf { cls := 21, slots := a, vm := .none } .int := ⟨fun k h => (by cases h), _, rfl, _, rfl⟩
set_option maxRecDepth 100000 in
theorem st5_X : va_X 0 210 (fun _ => 5) st5 st5.heap :=
  ⟨{ cls := 21, slots := s5, vm := .none }, st5_cell s5, st5_arr s5, fun h => (by cases h), s5_size, s5_at⟩
set_option maxRecDepth 16384 in
theorem i_runs : ∃ (n : Nat) (o : Outcome), (∀ k, k < n → Within (stepsAlone start1.p0.tables start1.e0 k st5) Lib.HandBits.below0) ∧ (stepsAlone start1.p0.tables start1.e0 n st5).status = Status.running ∧ Ended (stepsAlone start1.p0.tables start1.e0 n st5) Lib.HandBits.below0 o ∧ st5.heap.size + 126 ≤ (stepsAlone start1.p0.tables start1.e0 n st5).heap.size :=
  i_walk launch0 rfl 0 start1.p0 start1.e0 (launch0.admits_env _ _ _) fairChoices_fair.cas fairChoices_fair.clock st5 ⟨0, 0⟩ start1.args0 Lib.HandBits.below0 rfl ((Spec.applies_iff_loose rfl).mp st5_R9).1 ⟨rfl, st5_X, (show (Cond.and given_1 narrow_1).before start1.args0 st5 = true by decide +kernel)⟩ trivial
/-- the claim's own form of its being false -/
theorem i_refuted_1 : RefutedClaimed_1_1 := by
  obtain ⟨n, o, hw, hrun, hend, hz⟩ := i_runs
  refine ⟨launch0, start1.p0, start1.e0, st5, ⟨0, 0⟩, start1.args0, Lib.HandBits.below0, rfl, st5_atStart, n, o, hw, hrun, hend, ?_⟩
  rintro ⟨-, -, -, -, -, hle, -⟩
  have h1 : (stepsAlone start1.p0.tables start1.e0 n st5).heap.size ≤ st5.heap.size + 125 := hle
  omega
theorem i_refuted_2 : RefutedClaimed_1_2 := by
  obtain ⟨n, o, hw, hrun, hend, hz⟩ := i_runs
  refine ⟨launch0, start1.p0, start1.e0, st5, ⟨0, 0⟩, start1.args0, Lib.HandBits.below0, rfl, st5_atStart, n, o, hw, hrun, hend, ?_⟩
  rintro ⟨-, -, -, -, -, hle, -⟩
  have h1 : (stepsAlone start1.p0.tables start1.e0 n st5).heap.size ≤ st5.heap.size + 125 := hle
  omega
/-- and so what is owed has no proof -/
theorem i_vc_false : ¬ (Claimed_1_1 ∧ Claimed_1_2) := by
  rintro ⟨h, -⟩
  obtain ⟨n, o, hw, hrun, hend, hz⟩ := i_runs
  obtain ⟨hL, hWo, ha, -, hc, hk, hf, hfit, hhp, happ, hcalls, hrest, hpre⟩ := st5_atStart
  obtain ⟨n', o', hw', hrun', hend', hpost⟩ := h launch0 rfl hL hWo start1.p0 start1.e0 ha hc hk st5 ⟨0, 0⟩ start1.args0 Lib.HandBits.below0 hf hfit hhp happ ⟨hcalls, hrest, hpre⟩
  have e : n = n' := by
    rcases Nat.lt_trichotomy n n' with q | q | q
    · exact absurd (hw' n q) hend.not_within
    · exact q
    · exact absurd (hw n' q) hend'.not_within
  subst e
  obtain ⟨-, -, -, -, -, hle, -⟩ := hpost
  have h1 : (stepsAlone start1.p0.tables start1.e0 n st5).heap.size ≤ st5.heap.size + 125 := hle
  omega
end
section
/-! what is owed, and refuted in part 60 (i_vc_false): it stands here with a sorry for a whole round alone, which wants the name -/
theorem i_vc : Claimed_1_1 ∧ Claimed_1_2 := sorry
end
