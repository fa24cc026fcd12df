/-! calls over a part of the world, with the heap's growth: the law's own methods -/
def wD (cI cZ : ClassId) (ad : Nat → Nat) (o : Nat) (f : Nat → Int32) (u : GS) : va_W := (o, .inl (cI, 4, .inl f)) :: wC cI cZ ad u
/-- a method that answers an int, makes at most mc cells of ms slots, and lo cells at least -/
def MZ (l : Launch) (y : MethodName) (wds : List Cond) (rm : Room) (D : va_G) (tys : List (ClassId × FieldType)) (ws ws' : va_W) (av : List Value) (res : Int32) (mc ms lo : Nat) : Prop :=
  ∀ sz : Nat, Met l y wds rm (va_Pc av (cB D tys ws sz)) (va_Qi (S := Unit) (fun r _ => res = r) (fun _ t => cE D tys ws' (va_A ws sz) t ∧ sz + lo ≤ t.heap.size) (va_A ws sz)) mc ms (va_A ws sz)
section CPART
variable {p : Program} {l : Launch} {e : Env} {R : Room} {s : State} {m : MethodId} {args : Array Value} {below : List Frame} {meth : Method} {c : Code} {H : Heap} {locs : List Loc} {cells slots : Nat} {Q : State → Prop}
variable {cc : ByteArray} {pc nL index n maxL : Nat} {ls : Array Slot} {rest st0 : List Value} {D : va_G} {tys tysC : List (ClassId × FieldType)} {ws wc wr w1 ws' : va_W} {A0 : Nat → Prop} {y : MethodName} {bytes : ByteArray} {ret : Option FieldType} {wds : List Cond} {rm : Room} {own C : String} {b mc ms : Nat} {As : List Value} {res : Int32}
theorem cBackIF {a : Array Value} (hr : va_Run p l e R s m args below meth c H locs cells slots mc ms (F0 m pc ls st0) rest (va_Qi (S := Unit) (fun r _ => res = r) (fun _ t => cE D tysC w1 (va_A wc H.size) t) (va_A wc H.size) a) (va_A wc H.size)) (hP : va_P D vwCl ws H) (hD : va_D A0 ws) (hS : va_S A0 s.heap H locs) (hA : ∀ q : Nat, s.heap.size ≤ q → A0 q)
    (isC isR : List Nat) (hC : isC.map (fun i => ws[i]?) = wc.map some) (hR : isR.map (fun i => ws[i]?) = wr.map some) (hn : va_nd isR = true) (hdis : ∀ i ∈ isR, i ∉ isC)
    (kk : ∀ (H1 : Heap) (locs1 : List Loc), va_P D vwCl (wr ++ w1) H1 → va_D A0 (wr ++ w1) → va_S A0 s.heap H1 locs1 → W p l e R s m args below meth c H1 locs1 (cells + mc) (slots + ms) Q (F0 m (pc + 3) ls (.int res :: rest))) : W p l e R s m args below meth c H locs cells slots Q (F0 m pc ls st0) := by
  have hF := va_free (wc := wc) hD hS hA isC hC
  refine va_calli hr hS (fun q _ h => hF q h) hF (fun r u t H1 locs1 ht hvm hpost hB hz1 hk1 hS1 => ?_)
  obtain ⟨hP1, hK1, hD1⟩ := hB
  rw [ht] at hP1
  subst hpost
  obtain ⟨h1, h2⟩ := va_join hP hD isC isR hC hR hn hdis hk1 hF hP1 hD1
  exact kk H1 locs1 h1 h2 hS1
theorem cBackVF {a : Array Value} (hr : va_Run p l e R s m args below meth c H locs cells slots mc ms (F0 m pc ls st0) rest (va_Qv (S := Unit) (fun _ => True) (fun _ t => cE D tysC w1 (va_A wc H.size) t) (va_A wc H.size) a) (va_A wc H.size)) (hP : va_P D vwCl ws H) (hD : va_D A0 ws) (hS : va_S A0 s.heap H locs) (hA : ∀ q : Nat, s.heap.size ≤ q → A0 q)
    (isC isR : List Nat) (hC : isC.map (fun i => ws[i]?) = wc.map some) (hR : isR.map (fun i => ws[i]?) = wr.map some) (hn : va_nd isR = true) (hdis : ∀ i ∈ isR, i ∉ isC)
    (kk : ∀ (H1 : Heap) (locs1 : List Loc), va_P D vwCl (wr ++ w1) H1 → va_D A0 (wr ++ w1) → va_S A0 s.heap H1 locs1 → W p l e R s m args below meth c H1 locs1 (cells + mc) (slots + ms) Q (F0 m (pc + 3) ls rest)) : W p l e R s m args below meth c H locs cells slots Q (F0 m pc ls st0) := by
  have hF := va_free (wc := wc) hD hS hA isC hC
  refine va_callv hr hS (fun q _ h => hF q h) hF (fun u t H1 locs1 ht hvm hpost hB hz1 hk1 hS1 => ?_)
  obtain ⟨hP1, hK1, hD1⟩ := hB
  rw [ht] at hP1
  obtain ⟨h1, h2⟩ := va_join hP hD isC isR hC hR hn hdis hk1 hF hP1 hD1
  exact kk H1 locs1 h1 h2 hS1
theorem cc_iVF (S : CallFix p m c cc nL s args Wall own) (hM : MI l y wds rm D tysC wc w1 (.ref b :: As) res) (cw : CallW R s args own C index y bytes maxL ret wds rm 0 0 n) (hK : va_K D vwCl tysC s) (hP : va_P D vwCl ws H) (hD : va_D A0 ws) (hS : va_S A0 s.heap H locs) (hA : ∀ q : Nat, s.heap.size ≤ q → A0 q) (hZ : cst A0 s)
    (isC isR : List Nat) (hC : isC.map (fun i => ws[i]?) = wc.map some) (hC2 : isC.filterMap (fun i => ws[i]?) = wc) (hC3 : va_nd isC = true) (hR : isR.map (fun i => ws[i]?) = wr.map some) (hnd : va_nd isR = true) (hdis : ∀ i ∈ isR, i ∉ isC) {ci q0 N : Nat} {T : u_T} {fs : List Value} (hci : vwCl[ci]? = some (C, T, N)) (hq : wc[q0]? = some (b, .inr (ci, fs)))
    (hn : As.length = n) (hsz : ls.size = nL) (hst : st0 = As.reverse ++ .ref b :: rest) (hw : (rest.map fun v => v.category).sum ≤ 8) (hdg : decode cc pc = .ok (.invokevirtual index, 3)) (hcs : cells ≤ R.cells ∧ slots ≤ R.slots)
    (kk : ∀ (H1 : Heap) (locs1 : List Loc), va_P D vwCl (wr ++ w1) H1 → va_D A0 (wr ++ w1) → va_S A0 s.heap H1 locs1 → W p l e R s m args below meth c H1 locs1 cells slots Q (F0 m (pc + 3) ls (.int res :: rest))) : W p l e R s m args below meth c H locs cells slots Q (F0 m pc ls st0) :=
  cBackIF (va_runV (As := As) (rest := rest) S (hM H.size) cw ⟨cB_blind, va_recv hK (hP.sub isC hC2) hci hq, cPre hK (hP.sub isC hC2) (hD.sub isC hC3 hC) hS hA hZ _⟩ rfl hn hsz hst (lv_room hw) hdg hcs) hP hD hS hA isC isR hC hR hnd hdis kk
theorem cc_vVF (S : CallFix p m c cc nL s args Wall own) (hM : MV l y wds rm D tysC wc w1 (.ref b :: As)) (cw : CallW R s args own C index y bytes maxL ret wds rm 0 0 n) (hK : va_K D vwCl tysC s) (hP : va_P D vwCl ws H) (hD : va_D A0 ws) (hS : va_S A0 s.heap H locs) (hA : ∀ q : Nat, s.heap.size ≤ q → A0 q) (hZ : cst A0 s)
    (isC isR : List Nat) (hC : isC.map (fun i => ws[i]?) = wc.map some) (hC2 : isC.filterMap (fun i => ws[i]?) = wc) (hC3 : va_nd isC = true) (hR : isR.map (fun i => ws[i]?) = wr.map some) (hnd : va_nd isR = true) (hdis : ∀ i ∈ isR, i ∉ isC) {ci q0 N : Nat} {T : u_T} {fs : List Value} (hci : vwCl[ci]? = some (C, T, N)) (hq : wc[q0]? = some (b, .inr (ci, fs)))
    (hn : As.length = n) (hsz : ls.size = nL) (hst : st0 = As.reverse ++ .ref b :: rest) (hw : (rest.map fun v => v.category).sum ≤ 8) (hdg : decode cc pc = .ok (.invokevirtual index, 3)) (hcs : cells ≤ R.cells ∧ slots ≤ R.slots)
    (kk : ∀ (H1 : Heap) (locs1 : List Loc), va_P D vwCl (wr ++ w1) H1 → va_D A0 (wr ++ w1) → va_S A0 s.heap H1 locs1 → W p l e R s m args below meth c H1 locs1 cells slots Q (F0 m (pc + 3) ls rest)) : W p l e R s m args below meth c H locs cells slots Q (F0 m pc ls st0) :=
  cBackVF (va_runV (As := As) (rest := rest) S (hM H.size) cw ⟨cB_blind, va_recv hK (hP.sub isC hC2) hci hq, cPre hK (hP.sub isC hC2) (hD.sub isC hC3 hC) hS hA hZ _⟩ rfl hn hsz hst (lv_room hw) hdg hcs) hP hD hS hA isC isR hC hR hnd hdis kk
theorem cX_iVF {E : String} (S : CallFix p m c cc nL s args Wall own) (hM : XI l y wds rm D tysC wc w1 (.ref b :: As) E) (cw : CallW R s args own C index y bytes maxL ret wds rm 1 6 n) (hK : va_K D vwCl tysC s) (hP : va_P D vwCl ws H) (hD : va_D A0 ws) (hS : va_S A0 s.heap H locs) (hA : ∀ q : Nat, s.heap.size ≤ q → A0 q) (hZ : cst A0 s)
    (isC isR : List Nat) (hC : isC.map (fun i => ws[i]?) = wc.map some) (hC2 : isC.filterMap (fun i => ws[i]?) = wc) (hC3 : va_nd isC = true) (hR : isR.map (fun i => ws[i]?) = wr.map some) (hnd : va_nd isR = true) (hdis : ∀ i ∈ isR, i ∉ isC) {ci q0 N : Nat} {T : u_T} {fs : List Value} (hci : vwCl[ci]? = some (C, T, N)) (hq : wc[q0]? = some (b, .inr (ci, fs)))
    (hn : As.length = n) (hsz : ls.size = nL) (hst : st0 = As.reverse ++ .ref b :: rest) (hw : (rest.map fun v => v.category).sum ≤ 8) (hdg : decode cc pc = .ok (.invokevirtual index, 3)) (hcs : cells + 1 ≤ R.cells ∧ slots + 6 ≤ R.slots)
    (kx : ∀ (ce : Cell) (q9 : Addr) (H1 : Heap) (locs1 : List Loc), va_P D vwCl (wr ++ w1) H1 → va_D A0 (wr ++ w1) → va_S A0 s.heap H1 locs1 → s.heap.size + 1 ≤ H1.size → H1[q9]? = some ce → ce.vm = .none → s.vm.findClass E = some ce.cls → vx_W p l e R s m args below meth c H1 locs1 (cells + 1) (slots + 6) Q (F0 m pc ls rest) q9) : W p l e R s m args below meth c H locs cells slots Q (F0 m pc ls st0) := by
  have hF := va_free (wc := wc) hD hS hA isC hC
  refine vx_calli (vx_runV (As := As) (rest := rest) S (hM H.size) cw ⟨cB_blind, va_recv hK (hP.sub isC hC2) hci hq, cPre hK (hP.sub isC hC2) (hD.sub isC hC3 hC) hS hA hZ _⟩ rfl hn hsz hst (lv_room hw) hdg hcs) hS (fun q _ h => hF q h) hF (fun q _ h => hF q h) (fun E' ce q9 u t H1 locs1 ht hvm _ hB hz1 hk1 hS1 h1 h2 h3 => ?_) (fun r u t H1 locs1 ht hvm hpost => hpost.elim)
  obtain ⟨⟨rfl, hP1, hK1, hD1⟩, hz9⟩ := hB
  rw [ht] at hP1 hz9
  obtain ⟨g1, g2⟩ := va_join hP hD isC isR hC hR hnd hdis hk1 hF hP1 hD1
  exact kx ce q9 H1 locs1 g1 g2 hS1 (Nat.le_trans (Nat.add_le_add_right hS.1 1) hz9) h1 h2 h3
theorem cX_vVF {E : String} (S : CallFix p m c cc nL s args Wall own) (hM : XV l y wds rm D tysC wc w1 (.ref b :: As) E) (cw : CallW R s args own C index y bytes maxL ret wds rm 1 6 n) (hK : va_K D vwCl tysC s) (hP : va_P D vwCl ws H) (hD : va_D A0 ws) (hS : va_S A0 s.heap H locs) (hA : ∀ q : Nat, s.heap.size ≤ q → A0 q) (hZ : cst A0 s)
    (isC isR : List Nat) (hC : isC.map (fun i => ws[i]?) = wc.map some) (hC2 : isC.filterMap (fun i => ws[i]?) = wc) (hC3 : va_nd isC = true) (hR : isR.map (fun i => ws[i]?) = wr.map some) (hnd : va_nd isR = true) (hdis : ∀ i ∈ isR, i ∉ isC) {ci q0 N : Nat} {T : u_T} {fs : List Value} (hci : vwCl[ci]? = some (C, T, N)) (hq : wc[q0]? = some (b, .inr (ci, fs)))
    (hn : As.length = n) (hsz : ls.size = nL) (hst : st0 = As.reverse ++ .ref b :: rest) (hw : (rest.map fun v => v.category).sum ≤ 8) (hdg : decode cc pc = .ok (.invokevirtual index, 3)) (hcs : cells + 1 ≤ R.cells ∧ slots + 6 ≤ R.slots)
    (kx : ∀ (ce : Cell) (q9 : Addr) (H1 : Heap) (locs1 : List Loc), va_P D vwCl (wr ++ w1) H1 → va_D A0 (wr ++ w1) → va_S A0 s.heap H1 locs1 → s.heap.size + 1 ≤ H1.size → H1[q9]? = some ce → ce.vm = .none → s.vm.findClass E = some ce.cls → vx_W p l e R s m args below meth c H1 locs1 (cells + 1) (slots + 6) Q (F0 m pc ls rest) q9) : W p l e R s m args below meth c H locs cells slots Q (F0 m pc ls st0) := by
  have hF := va_free (wc := wc) hD hS hA isC hC
  refine vx_callv (vx_runV (As := As) (rest := rest) S (hM H.size) cw ⟨cB_blind, va_recv hK (hP.sub isC hC2) hci hq, cPre hK (hP.sub isC hC2) (hD.sub isC hC3 hC) hS hA hZ _⟩ rfl hn hsz hst (lv_room hw) hdg hcs) hS (fun q _ h => hF q h) hF (fun q _ h => hF q h) (fun E' ce q9 u t H1 locs1 ht hvm _ hB hz1 hk1 hS1 h1 h2 h3 => ?_) (fun u t H1 locs1 ht hvm hpost => hpost.elim)
  obtain ⟨⟨rfl, hP1, hK1, hD1⟩, hz9⟩ := hB
  rw [ht] at hP1 hz9
  obtain ⟨g1, g2⟩ := va_join hP hD isC isR hC hR hnd hdis hk1 hF hP1 hD1
  exact kx ce q9 H1 locs1 g1 g2 hS1 (Nat.le_trans (Nat.add_le_add_right hS.1 1) hz9) h1 h2 h3
theorem cBackIM {a : Array Value} (hr : va_Run p l e R s m args below meth c H locs cells slots mc ms (F0 m pc ls st0) rest (va_Qi (S := Unit) (fun r _ => res = r) (fun _ t => cE D tysC w1 (va_A wc H.size) t) (va_A wc H.size) a) (va_A wc H.size)) (hP : va_P D vwCl ws H) (hD : va_D A0 ws) (hS : va_S A0 s.heap H locs) (hA : ∀ q : Nat, s.heap.size ≤ q → A0 q)
    (isC isR : List Nat) (hC : isC.map (fun i => ws[i]?) = wc.map some) (hR : isR.map (fun i => ws[i]?) = wr.map some) (hn : va_nd isR = true) (hdis : ∀ i ∈ isR, i ∉ isC)
    (kk : ∀ (H1 : Heap) (locs1 : List Loc), va_P D vwCl (wr ++ w1) H1 → va_D A0 (wr ++ w1) → va_S A0 s.heap H1 locs1 → H.size + 0 ≤ H1.size → W p l e R s m args below meth c H1 locs1 (cells + mc) (slots + ms) Q (F0 m (pc + 3) ls (.int res :: rest))) : W p l e R s m args below meth c H locs cells slots Q (F0 m pc ls st0) := by
  have hF := va_free (wc := wc) hD hS hA isC hC
  refine va_calli hr hS (fun q _ h => hF q h) hF (fun r u t H1 locs1 ht hvm hpost hB hz1 hk1 hS1 => ?_)
  obtain ⟨hP1, hK1, hD1⟩ := hB
  rw [ht] at hP1
  subst hpost
  obtain ⟨h1, h2⟩ := va_join hP hD isC isR hC hR hn hdis hk1 hF hP1 hD1
  exact kk H1 locs1 h1 h2 hS1 hz1
theorem cBackIZ {a : Array Value} {lo : Nat} (hr : va_Run p l e R s m args below meth c H locs cells slots mc ms (F0 m pc ls st0) rest (va_Qi (S := Unit) (fun r _ => res = r) (fun _ t => cE D tysC w1 (va_A wc H.size) t ∧ H.size + lo ≤ t.heap.size) (va_A wc H.size) a) (va_A wc H.size)) (hP : va_P D vwCl ws H) (hD : va_D A0 ws) (hS : va_S A0 s.heap H locs) (hA : ∀ q : Nat, s.heap.size ≤ q → A0 q)
    (isC isR : List Nat) (hC : isC.map (fun i => ws[i]?) = wc.map some) (hR : isR.map (fun i => ws[i]?) = wr.map some) (hn : va_nd isR = true) (hdis : ∀ i ∈ isR, i ∉ isC)
    (kk : ∀ (H1 : Heap) (locs1 : List Loc), va_P D vwCl (wr ++ w1) H1 → va_D A0 (wr ++ w1) → va_S A0 s.heap H1 locs1 → H.size + lo ≤ H1.size → W p l e R s m args below meth c H1 locs1 (cells + mc) (slots + ms) Q (F0 m (pc + 3) ls (.int res :: rest))) : W p l e R s m args below meth c H locs cells slots Q (F0 m pc ls st0) := by
  have hF := va_free (wc := wc) hD hS hA isC hC
  refine va_calli hr hS (fun q _ h => hF q h) hF (fun r u t H1 locs1 ht hvm hpost hB hz1 hk1 hS1 => ?_)
  obtain ⟨⟨hP1, hK1, hD1⟩, hlo⟩ := hB
  rw [ht] at hP1 hlo
  subst hpost
  obtain ⟨h1, h2⟩ := va_join hP hD isC isR hC hR hn hdis hk1 hF hP1 hD1
  exact kk H1 locs1 h1 h2 hS1 hlo
theorem cc_iVM (S : CallFix p m c cc nL s args Wall own) (hM : MI l y wds rm D tysC wc w1 (.ref b :: As) res) (cw : CallW R s args own C index y bytes maxL ret wds rm 0 0 n) (hK : va_K D vwCl tysC s) (hP : va_P D vwCl ws H) (hD : va_D A0 ws) (hS : va_S A0 s.heap H locs) (hA : ∀ q : Nat, s.heap.size ≤ q → A0 q) (hZ : cst A0 s)
    (isC isR : List Nat) (hC : isC.map (fun i => ws[i]?) = wc.map some) (hC2 : isC.filterMap (fun i => ws[i]?) = wc) (hC3 : va_nd isC = true) (hR : isR.map (fun i => ws[i]?) = wr.map some) (hnd : va_nd isR = true) (hdis : ∀ i ∈ isR, i ∉ isC) {ci q0 N : Nat} {T : u_T} {fs : List Value} (hci : vwCl[ci]? = some (C, T, N)) (hq : wc[q0]? = some (b, .inr (ci, fs)))
    (hn : As.length = n) (hsz : ls.size = nL) (hst : st0 = As.reverse ++ .ref b :: rest) (hw : (rest.map fun v => v.category).sum ≤ 8) (hdg : decode cc pc = .ok (.invokevirtual index, 3)) (hcs : cells ≤ R.cells ∧ slots ≤ R.slots)
    (kk : ∀ (H1 : Heap) (locs1 : List Loc), va_P D vwCl (wr ++ w1) H1 → va_D A0 (wr ++ w1) → va_S A0 s.heap H1 locs1 → H.size + 0 ≤ H1.size → W p l e R s m args below meth c H1 locs1 cells slots Q (F0 m (pc + 3) ls (.int res :: rest))) : W p l e R s m args below meth c H locs cells slots Q (F0 m pc ls st0) :=
  cBackIM (va_runV (As := As) (rest := rest) S (hM H.size) cw ⟨cB_blind, va_recv hK (hP.sub isC hC2) hci hq, cPre hK (hP.sub isC hC2) (hD.sub isC hC3 hC) hS hA hZ _⟩ rfl hn hsz hst (lv_room hw) hdg hcs) hP hD hS hA isC isR hC hR hnd hdis kk
theorem cc_iSM (S : CallFix p m c cc nL s args Wall own) (hM : MI l y wds rm D tysC wc w1 As res) (cw : CallB R s args own index y bytes maxL ret wds rm 0 0 n ∧ (Cond.static y).before args s = true) (hK : va_K D vwCl tysC s) (hP : va_P D vwCl ws H) (hD : va_D A0 ws) (hS : va_S A0 s.heap H locs) (hA : ∀ q : Nat, s.heap.size ≤ q → A0 q) (hZ : cst A0 s)
    (isC isR : List Nat) (hC : isC.map (fun i => ws[i]?) = wc.map some) (hC2 : isC.filterMap (fun i => ws[i]?) = wc) (hC3 : va_nd isC = true) (hR : isR.map (fun i => ws[i]?) = wr.map some) (hnd : va_nd isR = true) (hdis : ∀ i ∈ isR, i ∉ isC)
    (hn : As.length = n) (hsz : ls.size = nL) (hst : st0 = As.reverse ++ rest) (hw : (rest.map fun v => v.category).sum ≤ 8) (hdg : decode cc pc = .ok (.invokestatic index, 3)) (hcs : cells ≤ R.cells ∧ slots ≤ R.slots)
    (kk : ∀ (H1 : Heap) (locs1 : List Loc), va_P D vwCl (wr ++ w1) H1 → va_D A0 (wr ++ w1) → va_S A0 s.heap H1 locs1 → H.size + 0 ≤ H1.size → W p l e R s m args below meth c H1 locs1 cells slots Q (F0 m (pc + 3) ls (.int res :: rest))) : W p l e R s m args below meth c H locs cells slots Q (F0 m pc ls st0) :=
  cBackIM (va_runS (As := As) (rest := rest) S (hM H.size) cw ⟨cB_blind, cPre hK (hP.sub isC hC2) (hD.sub isC hC3 hC) hS hA hZ _⟩ rfl hn hsz hst (lv_room hw) hdg hcs) hP hD hS hA isC isR hC hR hnd hdis kk
theorem cc_iSZ {lo : Nat} (S : CallFix p m c cc nL s args Wall own) (hM : MZ l y wds rm D tysC wc w1 As res mc ms lo) (cw : CallB R s args own index y bytes maxL ret wds rm mc ms n ∧ (Cond.static y).before args s = true) (hK : va_K D vwCl tysC s) (hP : va_P D vwCl ws H) (hD : va_D A0 ws) (hS : va_S A0 s.heap H locs) (hA : ∀ q : Nat, s.heap.size ≤ q → A0 q) (hZ : cst A0 s)
    (isC isR : List Nat) (hC : isC.map (fun i => ws[i]?) = wc.map some) (hC2 : isC.filterMap (fun i => ws[i]?) = wc) (hC3 : va_nd isC = true) (hR : isR.map (fun i => ws[i]?) = wr.map some) (hnd : va_nd isR = true) (hdis : ∀ i ∈ isR, i ∉ isC)
    (hn : As.length = n) (hsz : ls.size = nL) (hst : st0 = As.reverse ++ rest) (hw : (rest.map fun v => v.category).sum ≤ 8) (hdg : decode cc pc = .ok (.invokestatic index, 3)) (hcs : cells + mc ≤ R.cells ∧ slots + ms ≤ R.slots)
    (kk : ∀ (H1 : Heap) (locs1 : List Loc), va_P D vwCl (wr ++ w1) H1 → va_D A0 (wr ++ w1) → va_S A0 s.heap H1 locs1 → H.size + lo ≤ H1.size → W p l e R s m args below meth c H1 locs1 (cells + mc) (slots + ms) Q (F0 m (pc + 3) ls (.int res :: rest))) : W p l e R s m args below meth c H locs cells slots Q (F0 m pc ls st0) :=
  cBackIZ (va_runS (As := As) (rest := rest) S (hM H.size) cw ⟨cB_blind, cPre hK (hP.sub isC hC2) (hD.sub isC hC3 hC) hS hA hZ _⟩ rfl hn hsz hst (lv_room hw) hdg hcs) hP hD hS hA isC isR hC hR hnd hdis kk
theorem cc_iSHZ {lo : Nat} {hh : List (Nat × Nat × Nat × Nat)} (S : CallFix p m c cc nL s args Wall own) (hM : MZ l y wds rm D tysC wc w1 As res mc ms lo) (cw : vx_CSW R s args own index y bytes maxL ret hh wds rm mc ms n) (hK : va_K D vwCl tysC s) (hP : va_P D vwCl ws H) (hD : va_D A0 ws) (hS : va_S A0 s.heap H locs) (hA : ∀ q : Nat, s.heap.size ≤ q → A0 q) (hZ : cst A0 s)
    (isC isR : List Nat) (hC : isC.map (fun i => ws[i]?) = wc.map some) (hC2 : isC.filterMap (fun i => ws[i]?) = wc) (hC3 : va_nd isC = true) (hR : isR.map (fun i => ws[i]?) = wr.map some) (hnd : va_nd isR = true) (hdis : ∀ i ∈ isR, i ∉ isC)
    (hn : As.length = n) (hsz : ls.size = nL) (hst : st0 = As.reverse ++ rest) (hw : (rest.map fun v => v.category).sum ≤ 8) (hdg : decode cc pc = .ok (.invokestatic index, 3)) (hcs : cells + mc ≤ R.cells ∧ slots + ms ≤ R.slots)
    (kk : ∀ (H1 : Heap) (locs1 : List Loc), va_P D vwCl (wr ++ w1) H1 → va_D A0 (wr ++ w1) → va_S A0 s.heap H1 locs1 → H.size + lo ≤ H1.size → W p l e R s m args below meth c H1 locs1 (cells + mc) (slots + ms) Q (F0 m (pc + 3) ls (.int res :: rest))) : W p l e R s m args below meth c H locs cells slots Q (F0 m pc ls st0) :=
  cBackIZ (vx_runSW (As := As) (rest := rest) S (hM H.size) cw ⟨cB_blind, cPre hK (hP.sub isC hC2) (hD.sub isC hC3 hC) hS hA hZ _⟩ rfl hn hsz hst (lv_room hw) hdg hcs) hP hD hS hA isC isR hC hR hnd hdis kk
theorem cc_retZ {v : Int32} {ty : FieldType} {lo : Nat} (hx : p.tables.exec = Jvm.exec) (hb : c.code = cc) (hr : meth.sig.returnType = some ty) (hn : narrow ty (.int v) = .int v) (hQ : Q = MQ below (va_Qi (S := Unit) (fun r _ => res = r) (fun _ t => cE D tys ws' A0 t ∧ s.heap.size + lo ≤ t.heap.size) A0) args s mc ms A0) (hK : va_K D vwCl tys s) (hP : va_P D vwCl ws' H) (hD : va_D A0 ws') (hS : va_S A0 s.heap H locs) (hN : s.heap.size + lo ≤ H.size) (hv : res = v) (hdg : decode cc pc = .ok (.ireturn, 1)) (hlocks : meth.locks = false) : W p l e R s m args below meth c H locs mc ms Q (F0 m pc ls [.int v]) := by
  subst hQ
  exact W.zret hx hb hr hn (fun t ht hW => ⟨⟨v, (), rfl, hv, ⟨by rw [ht]; exact hP, va_K.moved hW.alike hK, hD⟩, by rw [ht]; exact hN⟩, hS.F ht⟩) hS.2.2 hdg hlocks
/-- a store into a whole row of ints: the heap's size stays -/
theorem va_iastM {a : Nat} (hexec : p.tables.exec = Jvm.exec) (hb : c.code = cc) (hK : va_K D vwCl tys s) (hP : va_P D vwCl ws H) (hD : va_D A0 ws) (hS : va_S A0 s.heap H locs) (q0 t0 : Nat) {cA : ClassId} {n : Nat} {f : Nat → Int32} (ha : ws[q0]? = some (a, .inl (cA, n, .inl f))) (ht : tys[t0]? = some (cA, .int)) {i : Int32} {x : Int32} (hin : vp_in i n) (hdg : decode cc pc = .ok (.iastore, 1))
    (kk : ∀ (H1 : Heap) (locs1 : List Loc), va_P D vwCl (ws.set q0 (a, .inl (cA, n, .inl (upd f i.toNatClampNeg x)))) H1 → va_D A0 (ws.set q0 (a, .inl (cA, n, .inl (upd f i.toNatClampNeg x)))) → va_S A0 s.heap H1 locs1 → H1.size = H.size → W p l e R s m args below meth c H1 locs1 cells slots Q (F0 m (pc + 1) ls rest)) : W p l e R s m args below meth c H locs cells slots Q (F0 m pc ls (.int x :: .int i :: .ref a :: rest)) := by
  refine W.iast hexec hb (hP q0 _ ha) ((hK.2 t0 _ ht).1 n (fun j => .int (f j))) (fun q => by cases q) (by show ¬ (i < 0 ∨ (arrV _ _ _).slots.size ≤ _); rw [arrV_size]; exact hin) rfl rfl hdg fun H1 e z oq => ?_
  refine kk H1 _ (hP.set hD ha ?_ oq) (hD.set ha) (hS.put z oq (hD.2 q0 _ ha)) z
  show H1[a]? = some (vp_cell _ _)
  rw [e]
  rw [vp_cell_i, vp_cell_i, arrV_store]
  congr 2
  funext q
  by_cases hq : q = i.toNatClampNeg
  · subst hq
    simp [updV, upd]
  · simp [updV, upd, hq]
theorem upd_id (f : Nat → Int32) (i : Nat) : upd f i (f i) = f := funext fun j => by
  by_cases h : j = i
  · rw [h, upd, if_pos rfl]
  · rw [upd, if_neg h]
end CPART
/-- draw: the script's own row, which no method writes -/
def MDr (l : Launch) (rm : Room) (b L : Nat) (xs : Nat → Int32) (k res : Int32) : Prop :=
  ∀ sz : Nat, Met l yL_draw (wm yL_draw cL_draw 2 (some .int)) rm (va_Pc [.ref b, .int k] (fun U => U.heap.size = sz ∧ va_X b L xs U U.heap)) (va_Qi (S := Unit) (fun r _ => res = r) (fun _ _ => True) (fun q => sz ≤ q)) 0 0 (fun q => sz ≤ q)
theorem MDr_blind {b L sz : Nat} {xs : Nat → Int32} {av : List Value} : FrameBlind (va_Pc av (fun U => U.heap.size = sz ∧ va_X b L xs U U.heap)) := fun a U g mk q => ⟨q.1, q.2.1, va_X.moved (u := U) (U := U.calling g mk a) (Vm.Alike.refl U.vm) q.2.2⟩
section CDRAW
variable {p : Program} {l : Launch} {e : Env} {R : Room} {s : State} {m : MethodId} {args : Array Value} {below : List Frame} {meth : Method} {c : Code} {H : Heap} {locs : List Loc} {cells slots : Nat} {Q : State → Prop}
variable {cc : ByteArray} {pc nL index : Nat} {ls : Array Slot} {rest st0 : List Value} {D : va_G} {ws : va_W} {A0 : Nat → Prop} {rm : Room} {own : String} {b L : Nat} {xs : Nat → Int32} {k res : Int32}
theorem cc_draw (S : CallFix p m c cc nL s args Wall own) (hM : MDr l rm b L xs k res) (cw : CallB R s args own index yL_draw cL_draw 2 (some .int) (wm yL_draw cL_draw 2 (some .int)) rm 0 0 2 ∧ (Cond.static yL_draw).before args s = true) (hX : va_X b L xs s s.heap) (hbl : b < s.heap.size) (hbA : ¬ A0 b) (hP : va_P D vwCl ws H) (hS : va_S A0 s.heap H locs) (hA : ∀ q : Nat, s.heap.size ≤ q → A0 q)
    (hsz : ls.size = nL) (hst : st0 = .int k :: .ref b :: rest) (hw : (rest.map fun v => v.category).sum ≤ 8) (hdg : decode cc pc = .ok (.invokestatic index, 3)) (hcs : cells ≤ R.cells ∧ slots ≤ R.slots)
    (kk : ∀ (H1 : Heap) (locs1 : List Loc), va_P D vwCl ws H1 → va_S A0 s.heap H1 locs1 → H.size ≤ H1.size → W p l e R s m args below meth c H1 locs1 cells slots Q (F0 m (pc + 3) ls (.int res :: rest))) : W p l e R s m args below meth c H locs cells slots Q (F0 m pc ls st0) := by
  have hF : ∀ q : Nat, H.size ≤ q → A0 q := fun q h => hA q (Nat.le_trans hS.1 h)
  have hr := va_runS (locs := locs) (cells := cells) (slots := slots) (l := l) (e := e) (below := below) (meth := meth) (g := F0 m pc ls st0) (As := [.ref b, .int k]) (rest := rest) S (hM H.size) cw ⟨MDr_blind, fun U hU hW => ⟨rfl, by rw [hU], by rw [hU]; exact va_X.moved hW.alike (hX.kept (hS.2.1 b hbl hbA))⟩⟩ rfl rfl hsz (by rw [hst]; rfl) (lv_room hw) hdg hcs
  refine va_calli hr hS (fun q _ h => hF q h) hF (fun r u t H1 locs1 ht hvm hpost hB hz1 hk1 hS1 => ?_)
  subst hpost
  exact kk H1 locs1 (hP.kept (fun k q hk => hk1 q.1 (hP k q hk).lt (Nat.not_le.mpr (hP k q hk).lt))) hS1 hz1
end CDRAW
