def rL_stop : Room := { frames := 4, cells := 0, slots := 0, locals := 86 }
def rx_L_stop : Room := { frames := 10, cells := 1, slots := 6, locals := 174 }
set_option maxHeartbeats 4000000 in
set_option maxRecDepth 100000 in
theorem k0_L_stop (l : Launch) (D : va_G) (cI cZ : ClassId) (ad : Nat → Nat) (u : GS) (p0 p1 : Int32) {r : Int32} {w' : GS} (h : g_X9_stop u p0 p1 = some (.inl r, w')) : MZ l yL_stop (wmH yL_stop cL_stop 4 (some .boolean) [(0, 6, 9, 33)]) rL_stop D [(cI, .int), (cZ, .boolean)] (wC cI cZ ad u) (wC cI cZ ad w') [.ref (ad 0), .int p0, .int p1] 1 0 0 0 := by
  intro sz
  refine va_MetW (cc := cL_stop) (maxL := 4) (ret := some .boolean) (hh := [(0, 6, 9, 33)]) (by decide) rfl ?_
  intro p e s m args below meth c s₁ B hml hv
  obtain ⟨rfl, hsz, hP, hK, hD0, hZ⟩ := hv
  have hx := B.exec
  have hb := B.bytes
  have hr := B.returns
  have hts0 := atoms_spec (ws := wmH yL_stop cL_stop 4 (some .boolean) [(0, 6, 9, 33)]) B.pre
  have hts : ∀ w ∈ Wall, w.before _ s = true := fun w hw => hts0 w (List.mem_cons_of_mem _ hw)
  have hown : s.vm.findClass RL = some m.cls := findClass_of_methodNamed B.named
  have hlocks := B.notSynchronized
  subst hsz
  have hD := hD0.self (sz := s.heap.size)
  generalize hAe : va_A (wC cI cZ ad u) s.heap.size = A at hD hZ ⊢
  have hA : ∀ q : Nat, s.heap.size ≤ q → A q := fun q h => by rw [← hAe]; exact Or.inr h
  have hS : va_S A s.heap s.heap [] := va_S.rf
  have hl := lv_entry ([.ref (ad 0), .int p0, .int p1]) (n := 4) (Nat.le_of_ble_eq_true rfl)
  rw [lg_entry_eq]
  generalize (lg_sl ([.ref (ad 0), .int p0, .int p1]) ++ List.replicate (4 - (lg_sl ([.ref (ad 0), .int p0, .int p1])).length) Slot.unset).toArray = ls at hl ⊢
  replace hl : lv_has ls 4 [(0, .ref (ad 0)), (1, .int p0), (2, .int p1)] := hl
  refine w_gen (fun Q hQ => ?_)
  refine lv_aload_n hx hb dL_stop_0 rfl (lv_at hl 0 rfl) ?_
  refine lv_iload_n hx hb dL_stop_1 rfl (lv_at hl 1 rfl) ?_
  refine lv_iload_n hx hb dL_stop_2 rfl (lv_at hl 2 rfl) ?_
  refine cc_vV (As := [.int p0, .int p1]) (rest := []) ⟨hx, hb, hml, hown, hts⟩ (k_X9_stop l D cI cZ ad u p0 p1 h) (cwV 2 hts (gwV mw_572 mw_573 mw_574 mw_19 mw_575) rfl rfl rfl (by decide +kernel) ⟨(Nat.le_of_ble_eq_true rfl), (Nat.le_of_ble_eq_true rfl)⟩) hK hP hD hS hA hZ (ci := 9) (q0 := 0) rfl rfl rfl hl.1 rfl (Nat.le_of_ble_eq_true rfl) dL_stop_3 ⟨Nat.zero_le _, Nat.zero_le _⟩ (fun H locs hP hD hS => ?_)
  refine lv_goto (tgt := 12) hx hb dL_stop_6 (by decide) ?_
  refine lv_iconst (v := 1) hx hb dL_stop_12 (by decide) ?_
  exact cc_retZ hx hb hr rfl hQ hK hP hD hS hS.1 rfl dL_stop_13 hlocks
set_option maxHeartbeats 4000000 in
set_option maxRecDepth 100000 in
theorem kx_L_stop (l : Launch) (hl0 : l.stackTraces = false) (D : va_G) (cI cZ : ClassId) (ad : Nat → Nat) (u : GS) (p0 p1 : Int32) {w' : GS} (h : g_X9_stop u p0 p1 = some (.inr "java/lang/IllegalStateException", w')) : MZ l yL_stop (wmH yL_stop cL_stop 4 (some .boolean) [(0, 6, 9, 33)]) rx_L_stop D [(cI, .int), (cZ, .boolean)] (wC cI cZ ad u) (wC cI cZ ad w') [.ref (ad 0), .int p0, .int p1] 0 1 6 1 := by
  intro sz
  refine va_MetW (cc := cL_stop) (maxL := 4) (ret := some .boolean) (hh := [(0, 6, 9, 33)]) (by decide) rfl ?_
  intro p e s m args below meth c s₁ B hml hv
  obtain ⟨rfl, hsz, hP, hK, hD0, hZ⟩ := hv
  have hx := B.exec
  have hb := B.bytes
  have hr := B.returns
  have hts0 := atoms_spec (ws := wmH yL_stop cL_stop 4 (some .boolean) [(0, 6, 9, 33)]) B.pre
  have hts : ∀ w ∈ Wall, w.before _ s = true := fun w hw => hts0 w (List.mem_cons_of_mem _ hw)
  have hown : s.vm.findClass RL = some m.cls := findClass_of_methodNamed B.named
  have hlocks := B.notSynchronized
  subst hsz
  have hD := hD0.self (sz := s.heap.size)
  generalize hAe : va_A (wC cI cZ ad u) s.heap.size = A at hD hZ ⊢
  have hA : ∀ q : Nat, s.heap.size ≤ q → A q := fun q h => by rw [← hAe]; exact Or.inr h
  have hS : va_S A s.heap s.heap [] := va_S.rf
  have hT := vx_table (x := yL_stop) B (hts0 _ List.mem_cons_self)
  have hl := lv_entry ([.ref (ad 0), .int p0, .int p1]) (n := 4) (Nat.le_of_ble_eq_true rfl)
  rw [lg_entry_eq]
  generalize (lg_sl ([.ref (ad 0), .int p0, .int p1]) ++ List.replicate (4 - (lg_sl ([.ref (ad 0), .int p0, .int p1])).length) Slot.unset).toArray = ls at hl ⊢
  replace hl : lv_has ls 4 [(0, .ref (ad 0)), (1, .int p0), (2, .int p1)] := hl
  refine w_gen (fun Q hQ => ?_)
  refine lv_aload_n hx hb dL_stop_0 rfl (lv_at hl 0 rfl) ?_
  refine lv_iload_n hx hb dL_stop_1 rfl (lv_at hl 1 rfl) ?_
  refine lv_iload_n hx hb dL_stop_2 rfl (lv_at hl 2 rfl) ?_
  refine cX_vV (As := [.int p0, .int p1]) (rest := []) ⟨hx, hb, hml, hown, hts⟩ (kx_X9_stop l hl0 D cI cZ ad u p0 p1 h) (cwV 2 hts (gwV mw_572 mw_573 mw_574 mw_19 mw_575) rfl rfl rfl (by decide +kernel) ⟨(Nat.le_of_ble_eq_true rfl), (Nat.le_of_ble_eq_true rfl)⟩) hK hP hD hS hA hZ (ci := 9) (q0 := 0) rfl rfl rfl hl.1 rfl (Nat.le_of_ble_eq_true rfl) dL_stop_3 ⟨(Nat.le_of_ble_eq_true rfl), (Nat.le_of_ble_eq_true rfl)⟩ (fun ce q9 H locs hP hD hS hz h1 h2 h3 => ?_)
  refine vx_catch (name := "java/lang/IllegalStateException") hown [] ⟨0, 6, 9, 33⟩ [] hT (fun _ h => absurd h List.not_mem_nil) (by decide) (by decide) (hts _ mw_501) (va_Nw.use rfl (hZ.2.2.2.2.2.2.2.2.2.1 "java/lang/IllegalStateException" (by decide +kernel))) h1 h2 h3 ?_
  refine lv_astore_n (lv' := [(3, .ref q9), (0, .ref (ad 0)), (1, .int p0), (2, .int p1)]) hx hb dL_stop_9 rfl hl (by decide) rfl (fun ls hl => ?_)
  refine lv_iconst (v := 0) hx hb dL_stop_10 (by decide) ?_
  exact cc_retZ hx hb hr rfl hQ hK hP hD hS hz rfl dL_stop_11 hlocks
def rL_draw : Room := { frames := 0, cells := 0, slots := 0, locals := 0 }
set_option maxHeartbeats 4000000 in
set_option maxRecDepth 100000 in
theorem k_L_draw (l : Launch) (b L : Nat) (xs : Nat → Int32) (k res : Int32) (hi : vp_in k L) (hk : ¬ Int32.ofNat L ≤ k) (hres : res = xs k.toNatClampNeg &&& 2147483647) : MDr l rL_draw b L xs k res := by
  intro sz
  refine Met.ofW (cc := cL_draw) (maxL := 2) (ret := some .int) (by decide) rfl ?_
  intro p e s m args below meth c s₁ B hml hv
  obtain ⟨rfl, hsz, hX⟩ := hv
  have hx := B.exec
  have hb := B.bytes
  have hr := B.returns
  have hts : ∀ w ∈ Wall, w.before _ s = true := fun w hw => atoms_spec (ws := wm yL_draw cL_draw 2 (some .int)) B.pre w (List.mem_cons_of_mem _ hw)
  have hown : s.vm.findClass RL = some m.cls := findClass_of_methodNamed B.named
  have hlocks := B.notSynchronized
  subst hsz
  have hbl : b < s.heap.size := (Array.getElem?_eq_some_iff.mp hX.choose_spec.1).1
  have hbA : ¬ (fun q : Nat => s.heap.size ≤ q) b := Nat.not_le.mpr hbl
  have hS : va_S (fun q : Nat => s.heap.size ≤ q) s.heap s.heap [] := va_S.rf
  have hl := lv_entry ([.ref b, .int k]) (n := 2) (Nat.le_of_ble_eq_true rfl)
  rw [lg_entry_eq]
  generalize (lg_sl ([.ref b, .int k]) ++ List.replicate (2 - (lg_sl ([.ref b, .int k])).length) Slot.unset).toArray = ls at hl ⊢
  replace hl : lv_has ls 2 [(0, .ref b), (1, .int k)] := hl
  refine w_gen (fun Q hQ => ?_)
  refine lv_iload_n hx hb dL_draw_0 rfl (lv_at hl 1 rfl) ?_
  refine lv_aload_n hx hb dL_draw_1 rfl (lv_at hl 0 rfl) ?_
  refine va_slen hx hb hX hbl hbA hS dL_draw_2 ?_
  refine lv_icmp_ge (tgt := 15) hx hb dL_draw_3 (by decide) (fun c9 => absurd c9 hk) (fun _ => ?_)
  refine lv_aload_n hx hb dL_draw_6 rfl (lv_at hl 0 rfl) ?_
  refine lv_iload_n hx hb dL_draw_7 rfl (lv_at hl 1 rfl) ?_
  refine va_sld hx hb hX hbl hbA hS hi dL_draw_8 ?_
  refine lv_ldc (v := 2147483647) hx hb hown (hts _ mw_485) dL_draw_9 ?_
  refine lv_iand hx hb dL_draw_11 ?_
  refine lv_goto (tgt := 24) hx hb dL_draw_12 (by decide) ?_
  subst hQ
  exact W.zret hx hb hr rfl (fun t ht hW => ⟨⟨_, (), rfl, hres, trivial⟩, hS.F ht⟩) hS.2.2 dL_draw_24 hlocks
def rL_step : Room := { frames := 11, cells := 2, slots := 12, locals := 197 }
set_option maxHeartbeats 4000000 in
set_option maxRecDepth 100000 in
theorem kA_L_step (l : Launch) (hl0 : l.stackTraces = false) (D : va_G) (cI cZ : ClassId) (ad : Nat → Nat) (o : Nat) (f : Nat → Int32) {u u1 u2 : GS} {r : Int32} (h1 : g_X9_stop u 5 1 = some (.inl r, u1)) (h2 : g_X9_stop u1 5 1 = some (.inr "java/lang/IllegalStateException", u2)) : MZ l yL_step (wm yL_step cL_step 18 (some .boolean)) rL_step D [(cI, .int), (cZ, .boolean)] (wD cI cZ ad o f u) (wD cI cZ ad o f u2) [.ref (ad 0), .ref o, .int 5, .int 5, .int 5] 1 2 12 1 := by
  intro sz
  refine Met.ofW (cc := cL_step) (maxL := 18) (ret := some .boolean) (by decide) rfl ?_
  intro p e s m args below meth c s₁ B hml hv
  obtain ⟨rfl, hsz, hP, hK, hD0, hZ⟩ := hv
  have hx := B.exec
  have hb := B.bytes
  have hr := B.returns
  have hts0 := atoms_spec (ws := wm yL_step cL_step 18 (some .boolean)) B.pre
  have hts : ∀ w ∈ Wall, w.before _ s = true := fun w hw => hts0 w (List.mem_cons_of_mem _ hw)
  have hown : s.vm.findClass RL = some m.cls := findClass_of_methodNamed B.named
  have hlocks := B.notSynchronized
  subst hsz
  have hD := hD0.self (sz := s.heap.size)
  generalize hAe : va_A (wD cI cZ ad o f u) s.heap.size = A at hD hZ ⊢
  have hA : ∀ q : Nat, s.heap.size ≤ q → A q := fun q h => by rw [← hAe]; exact Or.inr h
  have hS : va_S A s.heap s.heap [] := va_S.rf
  have hl := lv_entry ([.ref (ad 0), .ref o, .int 5, .int 5, .int 5]) (n := 18) (Nat.le_of_ble_eq_true rfl)
  rw [lg_entry_eq]
  generalize (lg_sl ([.ref (ad 0), .ref o, .int 5, .int 5, .int 5]) ++ List.replicate (18 - (lg_sl ([.ref (ad 0), .ref o, .int 5, .int 5, .int 5])).length) Slot.unset).toArray = ls at hl ⊢
  replace hl : lv_has ls 18 [(0, .ref (ad 0)), (1, .ref o), (2, .int 5), (3, .int 5), (4, .int 5)] := hl
  refine w_gen (fun Q hQ => ?_)
  refine lv_iload_n hx hb dL_step_0 rfl (lv_at hl 3 rfl) ?_
  refine lv_bipush (v := 12) hx hb dL_step_1 (by decide) ?_
  refine lv_irem hx hb dL_step_3 (by decide) ?_
  refine lv_topn (x := (5 - 5 / 12 * 12)) (y := 5) (by decide +kernel) ?_
  refine lv_istore (lv' := [(5, .int 5), (0, .ref (ad 0)), (1, .ref o), (2, .int 5), (3, .int 5), (4, .int 5)]) hx hb dL_step_4 hl (by decide) rfl (fun ls hl => ?_)
  refine lv_iload hx hb dL_step_6 (lv_at hl 5 rfl) ?_
  refine lv_iconst (v := 4) hx hb dL_step_8 (by decide) ?_
  refine lv_irem hx hb dL_step_9 (by decide) ?_
  refine lv_topn (x := (5 - 5 / 4 * 4)) (y := 1) (by decide +kernel) ?_
  refine lv_istore (lv' := [(6, .int 1), (5, .int 5), (0, .ref (ad 0)), (1, .ref o), (2, .int 5), (3, .int 5), (4, .int 5)]) hx hb dL_step_10 hl (by decide) rfl (fun ls hl => ?_)
  refine lv_iload_n hx hb dL_step_12 rfl (lv_at hl 4 rfl) ?_
  refine lv_bipush (v := 28) hx hb dL_step_13 (by decide) ?_
  refine lv_irem hx hb dL_step_15 (by decide) ?_
  refine lv_topn (x := (5 - 5 / 28 * 28)) (y := 5) (by decide +kernel) ?_
  refine lv_tableIn (tgt := 161) (off := 145) hx hb dL_step_16 (by decide) (by decide) (by decide) (by decide) ?_
  refine lv_aload_n hx hb dL_step_161 rfl (lv_at hl 2 rfl) ?_
  refine lv_iload hx hb dL_step_162 (lv_at hl 1 rfl) ?_
  refine lv_iload hx hb dL_step_164 (lv_at hl 0 rfl) ?_
  refine cc_iSHZ (As := [.ref (ad 0), .int 5, .int 1]) (rest := []) (wr := [(o, .inl (cI, 4, .inl f))]) ⟨hx, hb, hml, hown, hts⟩ (k0_L_stop l D cI cZ ad u 5 1 h1) (vx_cwSW 3 hts (gwSH mw_569 mw_570 mw_18 mw_571) rfl rfl rfl (by decide +kernel) ⟨(Nat.le_of_ble_eq_true rfl), (Nat.le_of_ble_eq_true rfl)⟩) hK hP hD hS hA hZ [1, 2, 3, 4, 5, 6, 7, 8, 9, 10, 11, 12, 13, 14, 15, 16, 17, 18, 19, 20, 21, 22, 23, 24, 25, 26, 27, 28, 29, 30, 31, 32, 33, 34, 35] [0] rfl rfl (by decide) rfl (by decide) (by decide) rfl hl.1 rfl (Nat.le_of_ble_eq_true rfl) dL_step_166 ⟨(Nat.le_of_ble_eq_true rfl), (Nat.le_of_ble_eq_true rfl)⟩ (fun H1 locs hP hD hS hz => ?_)
  replace hP : va_P D vwCl (wD cI cZ ad o f u1) H1 := hP
  replace hD : va_D A (wD cI cZ ad o f u1) := hD
  have hN : s.heap.size + 0 ≤ H1.size := hz
  refine lv_istore (lv' := [(7, .int 1), (6, .int 1), (5, .int 5), (0, .ref (ad 0)), (1, .ref o), (2, .int 5), (3, .int 5), (4, .int 5)]) hx hb dL_step_169 hl (by decide) rfl (fun ls hl => ?_)
  refine lv_aload_n hx hb dL_step_171 rfl (lv_at hl 4 rfl) ?_
  refine lv_iconst (v := 3) hx hb dL_step_172 (by decide) ?_
  refine lv_iload hx hb dL_step_173 (lv_at hl 0 rfl) ?_
  refine lv_if_eq (tgt := 187) hx hb dL_step_175 (by decide) (fun c9 => absurd c9 (by decide)) (fun _ => ?_)
  refine lv_iload hx hb dL_step_178 (lv_at hl 1 rfl) ?_
  refine lv_if_ne (tgt := 187) hx hb dL_step_180 (by decide) (fun _ => ?_) (fun c9 => absurd c9 (by decide))
  refine lv_aload_n hx hb dL_step_187 rfl (lv_at hl 4 rfl) ?_
  refine lv_iconst (v := 3) hx hb dL_step_188 (by decide) ?_
  refine va_iald (D := D) hx hb hK hP 0 0 rfl rfl (by unfold vp_in; decide) dL_step_189 ?_
  refine va_iastM hx hb hK hP hD hS 0 0 rfl rfl (by unfold vp_in; decide) dL_step_190 (fun H2 locs hP hD hS hz => ?_)
  rw [upd_id] at hP hD
  replace hP : va_P D vwCl (wD cI cZ ad o f u1) H2 := hP
  replace hD : va_D A (wD cI cZ ad o f u1) := hD
  replace hN : s.heap.size + 0 ≤ H2.size := by rw [hz]; exact hN
  refine lv_aload_n hx hb dL_step_191 rfl (lv_at hl 3 rfl) ?_
  refine lv_iload hx hb dL_step_192 (lv_at hl 2 rfl) ?_
  refine lv_iload hx hb dL_step_194 (lv_at hl 1 rfl) ?_
  refine cc_iSHZ (As := [.ref (ad 0), .int 5, .int 1]) (rest := []) (wr := [(o, .inl (cI, 4, .inl f))]) ⟨hx, hb, hml, hown, hts⟩ (kx_L_stop l hl0 D cI cZ ad u1 5 1 h2) (vx_cwSW 3 hts (gwSH mw_569 mw_570 mw_18 mw_571) rfl rfl rfl (by decide +kernel) ⟨(Nat.le_of_ble_eq_true rfl), (Nat.le_of_ble_eq_true rfl)⟩) hK hP hD hS hA hZ [1, 2, 3, 4, 5, 6, 7, 8, 9, 10, 11, 12, 13, 14, 15, 16, 17, 18, 19, 20, 21, 22, 23, 24, 25, 26, 27, 28, 29, 30, 31, 32, 33, 34, 35] [0] rfl rfl (by decide) rfl (by decide) (by decide) rfl hl.1 rfl (Nat.le_of_ble_eq_true rfl) dL_step_196 ⟨(Nat.le_of_ble_eq_true rfl), (Nat.le_of_ble_eq_true rfl)⟩ (fun H3 locs hP hD hS hz => ?_)
  replace hP : va_P D vwCl (wD cI cZ ad o f u2) H3 := hP
  replace hD : va_D A (wD cI cZ ad o f u2) := hD
  replace hN : s.heap.size + 1 ≤ H3.size := by omega
  refine lv_if_ne (tgt := 231) hx hb dL_step_199 (by decide) (fun c9 => absurd rfl c9) (fun _ => ?_)
  refine lv_iload hx hb dL_step_202 (lv_at hl 1 rfl) ?_
  refine lv_if_gt (tgt := 227) hx hb dL_step_204 (by decide) (fun _ => ?_) (fun c9 => absurd (by decide) c9)
  refine lv_iconst (v := 1) hx hb dL_step_227 (by decide) ?_
  refine lv_goto (tgt := 232) hx hb dL_step_228 (by decide) ?_
  refine W.widen (k := 2) (n := 12) (Nat.le_of_ble_eq_true rfl) (Nat.le_of_ble_eq_true rfl) ?_
  exact cc_retZ hx hb hr rfl hQ hK hP hD hS hN rfl dL_step_232 hlocks
set_option maxHeartbeats 4000000 in
set_option maxRecDepth 100000 in
theorem kB_L_step (l : Launch) (hl0 : l.stackTraces = false) (D : va_G) (cI cZ : ClassId) (ad : Nat → Nat) (o : Nat) (f : Nat → Int32) {u u1 u2 : GS} (h1 : g_X9_stop u 5 1 = some (.inr "java/lang/IllegalStateException", u1)) (h2 : g_X9_stop u1 5 1 = some (.inr "java/lang/IllegalStateException", u2)) : MZ l yL_step (wm yL_step cL_step 18 (some .boolean)) rL_step D [(cI, .int), (cZ, .boolean)] (wD cI cZ ad o f u) (wD cI cZ ad o f u2) [.ref (ad 0), .ref o, .int 5, .int 5, .int 5] 1 2 12 2 := by
  intro sz
  refine Met.ofW (cc := cL_step) (maxL := 18) (ret := some .boolean) (by decide) rfl ?_
  intro p e s m args below meth c s₁ B hml hv
  obtain ⟨rfl, hsz, hP, hK, hD0, hZ⟩ := hv
  have hx := B.exec
  have hb := B.bytes
  have hr := B.returns
  have hts0 := atoms_spec (ws := wm yL_step cL_step 18 (some .boolean)) B.pre
  have hts : ∀ w ∈ Wall, w.before _ s = true := fun w hw => hts0 w (List.mem_cons_of_mem _ hw)
  have hown : s.vm.findClass RL = some m.cls := findClass_of_methodNamed B.named
  have hlocks := B.notSynchronized
  subst hsz
  have hD := hD0.self (sz := s.heap.size)
  generalize hAe : va_A (wD cI cZ ad o f u) s.heap.size = A at hD hZ ⊢
  have hA : ∀ q : Nat, s.heap.size ≤ q → A q := fun q h => by rw [← hAe]; exact Or.inr h
  have hS : va_S A s.heap s.heap [] := va_S.rf
  have hl := lv_entry ([.ref (ad 0), .ref o, .int 5, .int 5, .int 5]) (n := 18) (Nat.le_of_ble_eq_true rfl)
  rw [lg_entry_eq]
  generalize (lg_sl ([.ref (ad 0), .ref o, .int 5, .int 5, .int 5]) ++ List.replicate (18 - (lg_sl ([.ref (ad 0), .ref o, .int 5, .int 5, .int 5])).length) Slot.unset).toArray = ls at hl ⊢
  replace hl : lv_has ls 18 [(0, .ref (ad 0)), (1, .ref o), (2, .int 5), (3, .int 5), (4, .int 5)] := hl
  refine w_gen (fun Q hQ => ?_)
  refine lv_iload_n hx hb dL_step_0 rfl (lv_at hl 3 rfl) ?_
  refine lv_bipush (v := 12) hx hb dL_step_1 (by decide) ?_
  refine lv_irem hx hb dL_step_3 (by decide) ?_
  refine lv_topn (x := (5 - 5 / 12 * 12)) (y := 5) (by decide +kernel) ?_
  refine lv_istore (lv' := [(5, .int 5), (0, .ref (ad 0)), (1, .ref o), (2, .int 5), (3, .int 5), (4, .int 5)]) hx hb dL_step_4 hl (by decide) rfl (fun ls hl => ?_)
  refine lv_iload hx hb dL_step_6 (lv_at hl 5 rfl) ?_
  refine lv_iconst (v := 4) hx hb dL_step_8 (by decide) ?_
  refine lv_irem hx hb dL_step_9 (by decide) ?_
  refine lv_topn (x := (5 - 5 / 4 * 4)) (y := 1) (by decide +kernel) ?_
  refine lv_istore (lv' := [(6, .int 1), (5, .int 5), (0, .ref (ad 0)), (1, .ref o), (2, .int 5), (3, .int 5), (4, .int 5)]) hx hb dL_step_10 hl (by decide) rfl (fun ls hl => ?_)
  refine lv_iload_n hx hb dL_step_12 rfl (lv_at hl 4 rfl) ?_
  refine lv_bipush (v := 28) hx hb dL_step_13 (by decide) ?_
  refine lv_irem hx hb dL_step_15 (by decide) ?_
  refine lv_topn (x := (5 - 5 / 28 * 28)) (y := 5) (by decide +kernel) ?_
  refine lv_tableIn (tgt := 161) (off := 145) hx hb dL_step_16 (by decide) (by decide) (by decide) (by decide) ?_
  refine lv_aload_n hx hb dL_step_161 rfl (lv_at hl 2 rfl) ?_
  refine lv_iload hx hb dL_step_162 (lv_at hl 1 rfl) ?_
  refine lv_iload hx hb dL_step_164 (lv_at hl 0 rfl) ?_
  refine cc_iSHZ (As := [.ref (ad 0), .int 5, .int 1]) (rest := []) (wr := [(o, .inl (cI, 4, .inl f))]) ⟨hx, hb, hml, hown, hts⟩ (kx_L_stop l hl0 D cI cZ ad u 5 1 h1) (vx_cwSW 3 hts (gwSH mw_569 mw_570 mw_18 mw_571) rfl rfl rfl (by decide +kernel) ⟨(Nat.le_of_ble_eq_true rfl), (Nat.le_of_ble_eq_true rfl)⟩) hK hP hD hS hA hZ [1, 2, 3, 4, 5, 6, 7, 8, 9, 10, 11, 12, 13, 14, 15, 16, 17, 18, 19, 20, 21, 22, 23, 24, 25, 26, 27, 28, 29, 30, 31, 32, 33, 34, 35] [0] rfl rfl (by decide) rfl (by decide) (by decide) rfl hl.1 rfl (Nat.le_of_ble_eq_true rfl) dL_step_166 ⟨(Nat.le_of_ble_eq_true rfl), (Nat.le_of_ble_eq_true rfl)⟩ (fun H1 locs hP hD hS hz => ?_)
  replace hP : va_P D vwCl (wD cI cZ ad o f u1) H1 := hP
  replace hD : va_D A (wD cI cZ ad o f u1) := hD
  have hN : s.heap.size + 1 ≤ H1.size := hz
  refine lv_istore (lv' := [(7, .int 0), (6, .int 1), (5, .int 5), (0, .ref (ad 0)), (1, .ref o), (2, .int 5), (3, .int 5), (4, .int 5)]) hx hb dL_step_169 hl (by decide) rfl (fun ls hl => ?_)
  refine lv_aload_n hx hb dL_step_171 rfl (lv_at hl 4 rfl) ?_
  refine lv_iconst (v := 3) hx hb dL_step_172 (by decide) ?_
  refine lv_iload hx hb dL_step_173 (lv_at hl 0 rfl) ?_
  refine lv_if_eq (tgt := 187) hx hb dL_step_175 (by decide) (fun _ => ?_) (fun c9 => absurd (by decide) c9)
  refine lv_aload_n hx hb dL_step_187 rfl (lv_at hl 4 rfl) ?_
  refine lv_iconst (v := 3) hx hb dL_step_188 (by decide) ?_
  refine va_iald (D := D) hx hb hK hP 0 0 rfl rfl (by unfold vp_in; decide) dL_step_189 ?_
  refine va_iastM hx hb hK hP hD hS 0 0 rfl rfl (by unfold vp_in; decide) dL_step_190 (fun H2 locs hP hD hS hz => ?_)
  rw [upd_id] at hP hD
  replace hP : va_P D vwCl (wD cI cZ ad o f u1) H2 := hP
  replace hD : va_D A (wD cI cZ ad o f u1) := hD
  replace hN : s.heap.size + 1 ≤ H2.size := by rw [hz]; exact hN
  refine lv_aload_n hx hb dL_step_191 rfl (lv_at hl 3 rfl) ?_
  refine lv_iload hx hb dL_step_192 (lv_at hl 2 rfl) ?_
  refine lv_iload hx hb dL_step_194 (lv_at hl 1 rfl) ?_
  refine cc_iSHZ (As := [.ref (ad 0), .int 5, .int 1]) (rest := []) (wr := [(o, .inl (cI, 4, .inl f))]) ⟨hx, hb, hml, hown, hts⟩ (kx_L_stop l hl0 D cI cZ ad u1 5 1 h2) (vx_cwSW 3 hts (gwSH mw_569 mw_570 mw_18 mw_571) rfl rfl rfl (by decide +kernel) ⟨(Nat.le_of_ble_eq_true rfl), (Nat.le_of_ble_eq_true rfl)⟩) hK hP hD hS hA hZ [1, 2, 3, 4, 5, 6, 7, 8, 9, 10, 11, 12, 13, 14, 15, 16, 17, 18, 19, 20, 21, 22, 23, 24, 25, 26, 27, 28, 29, 30, 31, 32, 33, 34, 35] [0] rfl rfl (by decide) rfl (by decide) (by decide) rfl hl.1 rfl (Nat.le_of_ble_eq_true rfl) dL_step_196 ⟨(Nat.le_of_ble_eq_true rfl), (Nat.le_of_ble_eq_true rfl)⟩ (fun H3 locs hP hD hS hz => ?_)
  replace hP : va_P D vwCl (wD cI cZ ad o f u2) H3 := hP
  replace hD : va_D A (wD cI cZ ad o f u2) := hD
  replace hN : s.heap.size + 2 ≤ H3.size := by omega
  refine lv_if_ne (tgt := 231) hx hb dL_step_199 (by decide) (fun c9 => absurd rfl c9) (fun _ => ?_)
  refine lv_iload hx hb dL_step_202 (lv_at hl 1 rfl) ?_
  refine lv_if_gt (tgt := 227) hx hb dL_step_204 (by decide) (fun _ => ?_) (fun c9 => absurd (by decide) c9)
  refine lv_iconst (v := 1) hx hb dL_step_227 (by decide) ?_
  refine lv_goto (tgt := 232) hx hb dL_step_228 (by decide) ?_
  exact cc_retZ hx hb hr rfl hQ hK hP hD hS hN rfl dL_step_232 hlocks
