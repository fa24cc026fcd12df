/-! the run: 70 steps of the law over fives, each of them stops a vehicle at the section 5, lane 1, twice -/
abbrev R9 : Room := { frames := 16, cells := 400, slots := 4000, locals := 662 }
def fQ (below : List Frame) (s : State) : State → Prop := fun t => ∃ o, t.status = .running ∧ Ended t below o ∧ s.heap.size + 126 ≤ t.heap.size
theorem fQ_ret {p : Program} {l : Launch} {e : Env} {s : State} {m : MethodId} {below : List Frame} {meth : Method} {c : Code} {b : Nat} (hx : p.tables.exec = Jvm.exec) (hb : c.code = code) (hr : meth.sig.returnType = ret) (hlocks : meth.locks = false) {pc cells slots : Nat} {H : Heap} {locs : List Loc} {ls : Array Slot} (hz : s.heap.size + 126 ≤ H.size) (hdg : decode code pc = .ok (.ireturn, 1)) : W p l e R9 s m #[Value.ref b] below meth c H locs cells slots (fQ below s) (F0 m pc ls [.int 1]) := by
  intro T hT X
  obtain ⟨fs, hret, hrun, hended, hW, hframe⟩ := X.leave (v := some (.int 1)) (hlocks := hlocks) (fun h => by rw [hr] at h; cases h)
  have hmeth' : T.vm.method? m = some meth := X.method'
  refine ⟨T.setFrames fs, ?_, .returned (some (.int 1)), hrun, hended, ?_⟩
  · jvm_step X.here [X.here.top, hx, hb, hdg, hmeth', hr, ret, narrow_b1]
    (try refine ⟨rfl, ?_⟩); (try refine ⟨rfl, ?_⟩)
    first | (intro acts; rw [hret _ acts rfl rfl rfl]) | rw [hret _ _ rfl rfl rfl]
    exact Steps.refl _
  · show s.heap.size + 126 ≤ T.heap.size
    rw [hT]
    exact hz
abbrev nJ (k : Nat) : Int32 := Int32.ofNat k
theorem nJ_lt : ∀ k : Nat, k < 70 → ¬ (70 : Int32) ≤ nJ k := by decide +kernel
theorem nJ_s : ∀ k : Nat, k < 70 → nJ k + Int32.ofInt 1 = nJ (k + 1) := by decide +kernel
theorem nJ_d0 : ∀ k : Nat, k < 70 → ¬ (3 * nJ k < 0 ∨ 210 ≤ (3 * nJ k).toNatClampNeg) ∧ ¬ Int32.ofNat 210 ≤ 3 * nJ k := by decide +kernel
theorem nJ_d1 : ∀ k : Nat, k < 70 → ¬ (3 * nJ k + 1 < 0 ∨ 210 ≤ (3 * nJ k + 1).toNatClampNeg) ∧ ¬ Int32.ofNat 210 ≤ 3 * nJ k + 1 := by decide +kernel
theorem nJ_d2 : ∀ k : Nat, k < 70 → ¬ (3 * nJ k + 2 < 0 ∨ 210 ≤ (3 * nJ k + 2).toNatClampNeg) ∧ ¬ Int32.ofNat 210 ≤ 3 * nJ k + 2 := by decide +kernel
set_option maxHeartbeats 4000000 in
set_option maxRecDepth 100000 in
theorem lbody {p : Program} {e : Env} {s : State} {m : MethodId} {below : List Frame} {meth : Method} {c : Code} {l : Launch} (hl0 : l.stackTraces = false) {b : Nat} (C0 : lw_At p s m meth c b 210 (fun _ => 5)) {D : va_G} {cI cZ : ClassId} (hK : va_K D vwCl [(cI, .int), (cZ, .boolean)] s) (hZ : cst (fun q : Nat => s.heap.size ≤ q) s) {ad : Nat → Nat} {o : Nat} {f : Nat → Int32} {u u2 v2 u3 : GS} {lo cells slots k : Nat} (hk : k < 70) (hce : cells + 2 ≤ 400) (hsl : slots + 12 ≤ 4000) (hstep : MZ l yL_step (wm yL_step cL_step 18 (some .boolean)) rL_step D [(cI, .int), (cZ, .boolean)] (wD cI cZ ad o f u) (wD cI cZ ad o f u2) [.ref (ad 0), .ref o, .int 5, .int 5, .int 5] 1 2 12 lo) (hg : geqb u2 v2 = true) (hroad : g_L_isRoad v2 = some (.inl 1, u3)) {H : Heap} {locs : List Loc} {ls : Array Slot} (hP : va_P D vwCl (wD cI cZ ad o f u) H) (hD : va_D (fun q : Nat => s.heap.size ≤ q) (wD cI cZ ad o f u)) (hS : va_S (fun q : Nat => s.heap.size ≤ q) s.heap H locs) (hl : lv_has ls 6 [(5, .int (nJ k)), (4, .int 70), (3, .int 1), (2, .ref o), (1, .ref (ad 0)), (0, .ref b)]) (kk : ∀ (H1 : Heap) (locs : List Loc) (ls : Array Slot), va_P D vwCl (wD cI cZ ad o f u3) H1 → va_D (fun q : Nat => s.heap.size ≤ q) (wD cI cZ ad o f u3) → va_S (fun q : Nat => s.heap.size ≤ q) s.heap H1 locs → lv_has ls 6 [(5, .int (nJ (k + 1))), (4, .int 70), (3, .int 1), (2, .ref o), (1, .ref (ad 0)), (0, .ref b)] → H.size + lo ≤ H1.size → W p l e R9 s m #[Value.ref b] below meth c H1 locs (cells + 2) (slots + 12) (fQ below s) (F0 m 96 ls [])) : W p l e R9 s m #[Value.ref b] below meth c H locs cells slots (fQ below s) (F0 m 96 ls []) := by
  obtain ⟨hx, hb, hr, hml, hown, hts0, hX, hbl, hlocks, hgv⟩ := id C0
  have hts : ∀ w ∈ Wall, w.before #[Value.ref b] s = true := fun w h => hts0 w (wall_tbl w h)
  have hA : ∀ q : Nat, s.heap.size ≤ q → (fun q : Nat => s.heap.size ≤ q) q := fun q h => h
  have hbA : ¬ (fun q : Nat => s.heap.size ≤ q) b := Nat.not_le.mpr hbl
  refine lv_iload hx hb dL_law_96 (lv_at hl 0 rfl) ?_
  refine lv_iload hx hb dL_law_98 (lv_at hl 1 rfl) ?_
  refine lv_icmp_ge (tgt := 162) hx hb dL_law_100 (by decide) (fun c9 => absurd c9 (nJ_lt k hk)) (fun _ => ?_)
  refine lv_iload_n hx hb dL_law_103 rfl (lv_at hl 2 rfl) ?_
  refine lv_if_eq (tgt := 162) hx hb dL_law_104 (by decide) (fun c9 => absurd c9 (by decide)) (fun _ => ?_)
  refine lv_aload_n hx hb dL_law_107 rfl (lv_at hl 4 rfl) ?_
  refine lv_aload_n hx hb dL_law_108 rfl (lv_at hl 3 rfl) ?_
  refine lv_aload_n hx hb dL_law_109 rfl (lv_at hl 5 rfl) ?_
  refine lv_iconst (v := 3) hx hb dL_law_110 (by decide) ?_
  refine lv_iload hx hb dL_law_111 (lv_at hl 0 rfl) ?_
  refine lv_imul hx hb dL_law_113 ?_
  refine cc_draw (k := (3 * (nJ k))) (res := 5) (rest := [.ref o, .ref (ad 0)]) ⟨hx, hb, hml, hown, hts⟩ (k_L_draw l b 210 (fun _ => 5) (3 * (nJ k)) 5 (nJ_d0 k hk).1 (nJ_d0 k hk).2 (by decide)) (va_cwS 2 hts (gwS mw_482 mw_483 mw_18 mw_484) rfl rfl rfl (by decide +kernel) ⟨(Nat.le_of_ble_eq_true rfl), (Nat.le_of_ble_eq_true rfl)⟩) hX hbl hbA hP hS hA hl.1 rfl (Nat.le_of_ble_eq_true rfl) dL_law_114 ⟨by show cells ≤ 400; omega, by show slots ≤ 4000; omega⟩ (fun H1 locs hP hS hz1 => ?_)
  refine lv_aload_n hx hb dL_law_117 rfl (lv_at hl 5 rfl) ?_
  refine lv_iconst (v := 3) hx hb dL_law_118 (by decide) ?_
  refine lv_iload hx hb dL_law_119 (lv_at hl 0 rfl) ?_
  refine lv_imul hx hb dL_law_121 ?_
  refine lv_iconst (v := 1) hx hb dL_law_122 (by decide) ?_
  refine lv_iadd hx hb dL_law_123 ?_
  refine cc_draw (k := ((3 * (nJ k)) + 1)) (res := 5) (rest := [.int 5, .ref o, .ref (ad 0)]) ⟨hx, hb, hml, hown, hts⟩ (k_L_draw l b 210 (fun _ => 5) ((3 * (nJ k)) + 1) 5 (nJ_d1 k hk).1 (nJ_d1 k hk).2 (by decide)) (va_cwS 2 hts (gwS mw_482 mw_483 mw_18 mw_484) rfl rfl rfl (by decide +kernel) ⟨(Nat.le_of_ble_eq_true rfl), (Nat.le_of_ble_eq_true rfl)⟩) hX hbl hbA hP hS hA hl.1 rfl (Nat.le_of_ble_eq_true rfl) dL_law_124 ⟨by show cells ≤ 400; omega, by show slots ≤ 4000; omega⟩ (fun H2 locs hP hS hz2 => ?_)
  refine lv_aload_n hx hb dL_law_127 rfl (lv_at hl 5 rfl) ?_
  refine lv_iconst (v := 3) hx hb dL_law_128 (by decide) ?_
  refine lv_iload hx hb dL_law_129 (lv_at hl 0 rfl) ?_
  refine lv_imul hx hb dL_law_131 ?_
  refine lv_iconst (v := 2) hx hb dL_law_132 (by decide) ?_
  refine lv_iadd hx hb dL_law_133 ?_
  refine cc_draw (k := ((3 * (nJ k)) + 2)) (res := 5) (rest := [.int 5, .int 5, .ref o, .ref (ad 0)]) ⟨hx, hb, hml, hown, hts⟩ (k_L_draw l b 210 (fun _ => 5) ((3 * (nJ k)) + 2) 5 (nJ_d2 k hk).1 (nJ_d2 k hk).2 (by decide)) (va_cwS 2 hts (gwS mw_482 mw_483 mw_18 mw_484) rfl rfl rfl (by decide +kernel) ⟨(Nat.le_of_ble_eq_true rfl), (Nat.le_of_ble_eq_true rfl)⟩) hX hbl hbA hP hS hA hl.1 rfl (Nat.le_of_ble_eq_true rfl) dL_law_134 ⟨by show cells ≤ 400; omega, by show slots ≤ 4000; omega⟩ (fun H3 locs hP hS hz3 => ?_)
  refine cc_iSZ (As := [.ref (ad 0), .ref o, .int 5, .int 5, .int 5]) (rest := []) (wr := []) ⟨hx, hb, hml, hown, hts⟩ (hstep) (va_cwS 5 hts (gwS mw_488 mw_489 mw_18 mw_490) rfl rfl rfl (by decide +kernel) ⟨(Nat.le_of_ble_eq_true rfl), (Nat.le_of_ble_eq_true rfl)⟩) hK hP hD hS hA hZ [0, 1, 2, 3, 4, 5, 6, 7, 8, 9, 10, 11, 12, 13, 14, 15, 16, 17, 18, 19, 20, 21, 22, 23, 24, 25, 26, 27, 28, 29, 30, 31, 32, 33, 34, 35] [] rfl rfl (by decide) rfl (by decide) (by decide) rfl hl.1 rfl (Nat.le_of_ble_eq_true rfl) dL_law_137 ⟨by show cells + 2 ≤ 400; omega, by show slots + 12 ≤ 4000; omega⟩ (fun H4 locs hP hD hS hz4 => ?_)
  replace hP : va_P D vwCl (wD cI cZ ad o f u2) H4 := hP
  replace hD : va_D (fun q : Nat => s.heap.size ≤ q) (wD cI cZ ad o f u2) := hD
  replace hP : va_P D vwCl (wD cI cZ ad o f v2) H4 := wD_sw hg hP
  replace hD : va_D (fun q : Nat => s.heap.size ≤ q) (wD cI cZ ad o f v2) := wD_swD hD
  refine lv_if_eq (tgt := 154) hx hb dL_law_140 (by decide) (fun c9 => absurd c9 (by decide)) (fun _ => ?_)
  refine lv_aload_n hx hb dL_law_143 rfl (lv_at hl 4 rfl) ?_
  refine cc_iSM (As := [.ref (ad 0)]) (rest := []) (wr := [(o, .inl (cI, 4, .inl f))]) ⟨hx, hb, hml, hown, hts⟩ (k_L_isRoad l D cI cZ ad v2 hroad) (va_cwS 1 hts (gwS mw_782 mw_783 mw_18 mw_784) rfl rfl rfl (by decide +kernel) ⟨(Nat.le_of_ble_eq_true rfl), (Nat.le_of_ble_eq_true rfl)⟩) hK hP hD hS hA hZ [1, 2, 3, 4, 5, 6, 7, 8, 9, 10, 11, 12, 13, 14, 15, 16, 17, 18, 19, 20, 21, 22, 23, 24, 25, 26, 27, 28, 29, 30, 31, 32, 33, 34, 35] [0] rfl rfl (by decide) rfl (by decide) (by decide) rfl hl.1 rfl (Nat.le_of_ble_eq_true rfl) dL_law_144 ⟨by show cells + 2 ≤ 400; omega, by show slots + 12 ≤ 4000; omega⟩ (fun H5 locs hP hD hS hz5 => ?_)
  replace hP : va_P D vwCl (wD cI cZ ad o f u3) H5 := hP
  replace hD : va_D (fun q : Nat => s.heap.size ≤ q) (wD cI cZ ad o f u3) := hD
  refine lv_if_eq (tgt := 154) hx hb dL_law_147 (by decide) (fun c9 => absurd c9 (by decide)) (fun _ => ?_)
  refine lv_iconst (v := 1) hx hb dL_law_150 (by decide) ?_
  refine lv_goto (tgt := 155) hx hb dL_law_151 (by decide) ?_
  refine lv_istore_n (lv' := [(3, .int 1), (5, .int (nJ k)), (4, .int 70), (2, .ref o), (1, .ref (ad 0)), (0, .ref b)]) hx hb dL_law_155 rfl hl (by decide) rfl (fun ls hl => ?_)
  refine lv_iinc (v := nJ (k + 1)) (lv' := [(5, .int (nJ (k + 1))), (3, .int 1), (4, .int 70), (2, .ref o), (1, .ref (ad 0)), (0, .ref b)]) hx hb dL_law_156 hl (k := 1) rfl (nJ_s k hk) (by decide) rfl (fun ls hl => ?_)
  refine lv_goto (tgt := 96) hx hb dL_law_159 (by decide) ?_
  exact kk H5 locs ls hP hD hS (lv_sub hl [0, 2, 1, 3, 4, 5] rfl) (by omega)
set_option maxHeartbeats 4000000 in
set_option maxRecDepth 100000 in
theorem lloop {p : Program} {e : Env} {s : State} {m : MethodId} {below : List Frame} {meth : Method} {c : Code} {l : Launch} (hl0 : l.stackTraces = false) {b : Nat} (C0 : lw_At p s m meth c b 210 (fun _ => 5)) {D : va_G} {cI cZ : ClassId} (hK : va_K D vwCl [(cI, .int), (cZ, .boolean)] s) (hZ : cst (fun q : Nat => s.heap.size ≤ q) s) {ad : Nat → Nat} {o : Nat} {f : Nat → Int32} : ∀ (n k : Nat), k + n = 70 → 1 ≤ k → ∀ (H : Heap) (locs : List Loc) (ls : Array Slot), va_P D vwCl (wD cI cZ ad o f uS) H → va_D (fun q : Nat => s.heap.size ≤ q) (wD cI cZ ad o f uS) → va_S (fun q : Nat => s.heap.size ≤ q) s.heap H locs → lv_has ls 6 [(5, .int (nJ k)), (4, .int 70), (3, .int 1), (2, .ref o), (1, .ref (ad 0)), (0, .ref b)] → s.heap.size + 2 * k ≤ H.size + 1 → W p l e R9 s m #[Value.ref b] below meth c H locs (36 + 2 * k) (1187 + 12 * k) (fQ below s) (F0 m 96 ls []) := by
  intro n
  induction n with
  | zero =>
    intro k hk1 hk2 H locs ls hP hD hS hl hz
    obtain rfl : k = 70 := by omega
    obtain ⟨hx, hb, hr, hml, hown, hts0, hX, hbl, hlocks, hgv⟩ := id C0
    replace hl : lv_has ls 6 [(5, .int 70), (4, .int 70), (3, .int 1), (2, .ref o), (1, .ref (ad 0)), (0, .ref b)] := hl
    refine lv_iload hx hb dL_law_96 (lv_at hl 0 rfl) ?_
    refine lv_iload hx hb dL_law_98 (lv_at hl 1 rfl) ?_
    refine lv_icmp_ge (tgt := 162) hx hb dL_law_100 (by decide) (fun _ => ?_) (fun c9 => absurd (by decide) c9)
    refine lv_iload_n hx hb dL_law_162 rfl (lv_at hl 2 rfl) ?_
    exact fQ_ret hx hb hr hlocks (by omega) dL_law_163
  | succ n ih =>
    intro k hk1 hk2 H locs ls hP hD hS hl hz
    obtain ⟨w1, e1, h1⟩ := ox_e ev_stopB
    obtain ⟨w2, e2, h2⟩ := ox_e h1
    obtain ⟨w3, e3, h3⟩ := ox_r ev_road
    refine lbody hl0 C0 hK hZ (u := uS) (u2 := w2) (v2 := uS) (lo := 2) (show k < 70 by omega) (by omega) (by omega) (kB_L_step l hl0 D cI cZ ad o f e1 e2) h2 e3 hP hD hS hl (fun H1 locs ls hP hD hS hl hz1 => ?_)
    rw [show 36 + 2 * k + 2 = 36 + 2 * (k + 1) by omega, show 1187 + 12 * k + 12 = 1187 + 12 * (k + 1) by omega]
    exact ih (k + 1) (by omega) (by omega) H1 locs ls (wD_sw h3 hP) (wD_swD hD) hS hl (by omega)
set_option maxHeartbeats 4000000 in
set_option maxRecDepth 100000 in
theorem whole_run {p : Program} {e : Env} {s : State} {m : MethodId} {below : List Frame} {meth : Method} {c : Code} (l : Launch) (hflags : l.flags = flags0) {b : Nat} (C0 : lw_At p s m meth c b 210 (fun _ => 5)) : W p l e R9 s m #[Value.ref b] below meth c s.heap [] 0 0 (fQ below s) (entryFrame m ([Value.ref b] : List Value).toArray 6) := by
  obtain ⟨hx, hb, hr, hml, hown, hts0, hX, hbl, hlocks, hgv⟩ := id C0
  have hts : ∀ w ∈ Wall, w.before #[Value.ref b] s = true := fun w h => hts0 w (wall_tbl w h)
  have hA : ∀ q : Nat, s.heap.size ≤ q → (fun q : Nat => s.heap.size ≤ q) q := fun q h => h
  have hbA : ¬ (fun q : Nat => s.heap.size ≤ q) b := Nat.not_le.mpr hbl
  have hl0 : l.stackTraces = false := by
    rw [Launch.stackTraces, hflags]
    decide +kernel
  obtain ⟨D, cI, cZ, hK⟩ := st_K hts
  have hZ : cst (fun q : Nat => s.heap.size ≤ q) s := st_cst hts0 hgv (hK.1 9 _ rfl).2.1
  obtain ⟨w7, hi7, g7⟩ := ob_ex ev_init
  obtain ⟨w3, hi3, g3⟩ := ob_ex g7
  obtain ⟨w6, hi6, g6⟩ := ob_ex g3
  obtain ⟨w9, hi9, g9⟩ := ob_ex g6
  have hS : va_S (fun q : Nat => s.heap.size ≤ q) s.heap s.heap [] := va_S.rf
  have hP : va_P D vwCl [] s.heap := fun k q h => by simp at h
  have hD : va_D (fun q : Nat => s.heap.size ≤ q) [] := ⟨fun i j p q h => by simp at h, fun k q h => by simp at h⟩
  have hl := lv_entry ([.ref b]) (n := 6) (Nat.le_of_ble_eq_true rfl)
  rw [lg_entry_eq]
  generalize (lg_sl ([.ref b]) ++ List.replicate (6 - (lg_sl ([.ref b])).length) Slot.unset).toArray = ls at hl ⊢
  replace hl : lv_has ls 6 [(0, .ref b)] := hl
  refine va_new (ci := 9) (fs := [.int 0, .null, .null, .null, .null, .null, .null, .null, .null, .null]) (C := RX9) (T := TX9) (N := 10) hx hb hts iX9 tyX9 tyX9_ok hown (hts _ mw_36) (hts _ mw_37) (hts _ mw_19) hK hP hD hS hA rfl (fun j hj => by rcases (show j = 0 ∨ j = 1 ∨ j = 2 ∨ j = 3 ∨ j = 4 ∨ j = 5 ∨ j = 6 ∨ j = 7 ∨ j = 8 ∨ j = 9 by omega) with rfl | rfl | rfl | rfl | rfl | rfl | rfl | rfl | rfl | rfl <;> rfl) (Nat.le_of_ble_eq_true rfl) (Nat.le_of_ble_eq_true rfl) dL_law_0 (fun q0 H hP hD hS => ?_)
  refine W.widen (k := 1) (n := 10) (Nat.le_of_ble_eq_true rfl) (Nat.le_of_ble_eq_true rfl) ?_
  replace hP : va_P D vwCl [(q0, .inr (9, [.int 0, .null, .null, .null, .null, .null, .null, .null, .null, .null]))] H := hP
  replace hD : va_D (fun q : Nat => s.heap.size ≤ q) [(q0, .inr (9, [.int 0, .null, .null, .null, .null, .null, .null, .null, .null, .null]))] := hD
  refine lv_dup hx hb dL_law_3 rfl ?_
  refine cc_cI (rest := [.ref q0]) (wr := []) ⟨hx, hb, hml, hown, hts⟩ (kc_X9 l D cI cZ q0 w7 hi7 w3 hi3 w6 hi6 w9 hi9) (cwI 0 hts (gwM mw_40) rfl rfl rfl (hts _ mw_19) (hts _ mw_38) (hts _ mw_39) rfl (by decide +kernel) ⟨(Nat.le_of_ble_eq_true rfl), (Nat.le_of_ble_eq_true rfl)⟩) hK hP hD hS hA hZ [0] [] rfl rfl (by decide) rfl (by decide) (by decide) hl.1 rfl (Nat.le_of_ble_eq_true rfl) dL_law_4 ⟨(Nat.le_of_ble_eq_true rfl), (Nat.le_of_ble_eq_true rfl)⟩ (fun ad H locs ead hP9 hD9 hS => ?_)
  subst ead
  refine W.widen (k := 35) (n := 1183) (Nat.le_of_ble_eq_true rfl) (Nat.le_of_ble_eq_true rfl) ?_
  replace hP : va_P D vwCl (wC cI cZ ad uI) H := wC_sw g9 hP9
  replace hD : va_D (fun q : Nat => s.heap.size ≤ q) (wC cI cZ ad uI) := wC_swD hD9
  refine lv_astore_n (lv' := [(1, .ref (ad 0)), (0, .ref b)]) hx hb dL_law_7 rfl hl (by decide) rfl (fun ls hl => ?_)
  refine lv_iconst (v := 4) hx hb dL_law_8 (by decide) ?_
  refine va_newa (atype := .int) (ty := .int) (a0 := (4, .inl (fun _ => 0))) hx hb (hts _ mw_79) rfl hK hP hD hS hA (fun _ => rfl) (by decide) (by decide) (Nat.le_of_ble_eq_true rfl) (Nat.le_of_ble_eq_true rfl) (Nat.le_of_ble_eq_true rfl) dL_law_9 (fun o cA H hK9 hP hD hS => ?_)
  obtain rfl : cI = cA := cls_int hK9 0 2 rfl rfl
  clear hK9
  refine W.widen (k := 36) (n := 1187) (Nat.le_of_ble_eq_true rfl) (Nat.le_of_ble_eq_true rfl) ?_
  obtain ⟨f, ef⟩ : ∃ f : Nat → Int32, f = (fun _ => 0) := ⟨_, rfl⟩
  replace hP : va_P D vwCl (wD cI cZ ad o f uI) H := by rw [ef]; exact hP.sub [35, 0, 1, 2, 3, 4, 5, 6, 7, 8, 9, 10, 11, 12, 13, 14, 15, 16, 17, 18, 19, 20, 21, 22, 23, 24, 25, 26, 27, 28, 29, 30, 31, 32, 33, 34] rfl
  replace hD : va_D (fun q : Nat => s.heap.size ≤ q) (wD cI cZ ad o f uI) := by rw [ef]; exact hD.sub [35, 0, 1, 2, 3, 4, 5, 6, 7, 8, 9, 10, 11, 12, 13, 14, 15, 16, 17, 18, 19, 20, 21, 22, 23, 24, 25, 26, 27, 28, 29, 30, 31, 32, 33, 34] (by decide) rfl
  refine lv_astore_n (lv' := [(2, .ref o), (1, .ref (ad 0)), (0, .ref b)]) hx hb dL_law_11 rfl hl (by decide) rfl (fun ls hl => ?_)
  obtain ⟨x1, e1, g1⟩ := wi_r (x := g_X9_isLawful uI) (r := 1) (f := fun w => geqb w uI) ev_lawful
  refine lv_aload_n hx hb dL_law_12 rfl (lv_at hl 1 rfl) ?_
  refine cc_iVM (As := []) (rest := []) (wr := [(o, .inl (cI, 4, .inl f))]) ⟨hx, hb, hml, hown, hts⟩ (k_X9_isLawful l D cI cZ ad uI e1) (cwV 0 hts (gwV mw_392 mw_393 mw_394 mw_19 mw_395) rfl rfl rfl (by decide +kernel) ⟨(Nat.le_of_ble_eq_true rfl), (Nat.le_of_ble_eq_true rfl)⟩) hK hP hD hS hA hZ [1, 2, 3, 4, 5, 6, 7, 8, 9, 10, 11, 12, 13, 14, 15, 16, 17, 18, 19, 20, 21, 22, 23, 24, 25, 26, 27, 28, 29, 30, 31, 32, 33, 34, 35] [0] rfl rfl (by decide) rfl (by decide) (by decide) (ci := 9) (q0 := 0) rfl rfl rfl hl.1 rfl (Nat.le_of_ble_eq_true rfl) dL_law_13 ⟨(Nat.le_of_ble_eq_true rfl), (Nat.le_of_ble_eq_true rfl)⟩ (fun H1 locs hP hD hS hz1 => ?_)
  replace hP : va_P D vwCl (wD cI cZ ad o f x1) H1 := hP
  replace hD : va_D (fun q : Nat => s.heap.size ≤ q) (wD cI cZ ad o f x1) := hD
  replace hP : va_P D vwCl (wD cI cZ ad o f uI) H1 := wD_sw g1 hP
  replace hD : va_D (fun q : Nat => s.heap.size ≤ q) (wD cI cZ ad o f uI) := wD_swD hD
  refine lv_if_eq (tgt := 71) hx hb dL_law_16 (by decide) (fun c9 => absurd c9 (by decide)) (fun _ => ?_)
  refine lv_aload_n hx hb dL_law_19 rfl (lv_at hl 1 rfl) ?_
  refine cc_iVM (As := []) (rest := []) (wr := [(o, .inl (cI, 4, .inl f))]) ⟨hx, hb, hml, hown, hts⟩ (k_X9_pattern l D cI cZ ad uI ev_pattern) (cwV 0 hts (gwV mw_404 mw_405 mw_406 mw_19 mw_407) rfl rfl rfl (by decide +kernel) ⟨(Nat.le_of_ble_eq_true rfl), (Nat.le_of_ble_eq_true rfl)⟩) hK hP hD hS hA hZ [1, 2, 3, 4, 5, 6, 7, 8, 9, 10, 11, 12, 13, 14, 15, 16, 17, 18, 19, 20, 21, 22, 23, 24, 25, 26, 27, 28, 29, 30, 31, 32, 33, 34, 35] [0] rfl rfl (by decide) rfl (by decide) (by decide) (ci := 9) (q0 := 0) rfl rfl rfl hl.1 rfl (Nat.le_of_ble_eq_true rfl) dL_law_20 ⟨(Nat.le_of_ble_eq_true rfl), (Nat.le_of_ble_eq_true rfl)⟩ (fun H2 locs hP hD hS hz2 => ?_)
  replace hP : va_P D vwCl (wD cI cZ ad o f uI) H2 := hP
  replace hD : va_D (fun q : Nat => s.heap.size ≤ q) (wD cI cZ ad o f uI) := hD
  obtain ⟨x2, e2, g2⟩ := ox_r ev_sign1
  refine lv_iconst (v := (-1)) hx hb dL_law_23 (by decide) ?_
  refine lv_icmp_ne (tgt := 71) hx hb dL_law_24 (by decide) (fun c9 => absurd rfl c9) (fun _ => ?_)
  refine lv_aload_n hx hb dL_law_27 rfl (lv_at hl 1 rfl) ?_
  refine lv_iconst (v := 0) hx hb dL_law_28 (by decide) ?_
  refine lv_iconst (v := 0) hx hb dL_law_29 (by decide) ?_
  refine cc_iVM (As := [.int 0, .int 0]) (rest := []) (wr := [(o, .inl (cI, 4, .inl f))]) ⟨hx, hb, hml, hown, hts⟩ (k_X9_sign l D cI cZ ad uI 0 0 e2) (cwV 2 hts (gwV mw_305 mw_306 mw_307 mw_19 mw_308) rfl rfl rfl (by decide +kernel) ⟨(Nat.le_of_ble_eq_true rfl), (Nat.le_of_ble_eq_true rfl)⟩) hK hP hD hS hA hZ [1, 2, 3, 4, 5, 6, 7, 8, 9, 10, 11, 12, 13, 14, 15, 16, 17, 18, 19, 20, 21, 22, 23, 24, 25, 26, 27, 28, 29, 30, 31, 32, 33, 34, 35] [0] rfl rfl (by decide) rfl (by decide) (by decide) (ci := 9) (q0 := 0) rfl rfl rfl hl.1 rfl (Nat.le_of_ble_eq_true rfl) dL_law_30 ⟨(Nat.le_of_ble_eq_true rfl), (Nat.le_of_ble_eq_true rfl)⟩ (fun H3 locs hP hD hS hz3 => ?_)
  replace hP : va_P D vwCl (wD cI cZ ad o f x2) H3 := hP
  replace hD : va_D (fun q : Nat => s.heap.size ≤ q) (wD cI cZ ad o f x2) := hD
  replace hP : va_P D vwCl (wD cI cZ ad o f uI) H3 := wD_sw g2 hP
  replace hD : va_D (fun q : Nat => s.heap.size ≤ q) (wD cI cZ ad o f uI) := wD_swD hD
  obtain ⟨x3, e3, g3⟩ := ox_r ev_sign2
  refine lv_iconst (v := 2) hx hb dL_law_33 (by decide) ?_
  refine lv_icmp_ne (tgt := 71) hx hb dL_law_34 (by decide) (fun c9 => absurd rfl c9) (fun _ => ?_)
  refine lv_aload_n hx hb dL_law_37 rfl (lv_at hl 1 rfl) ?_
  refine lv_bipush (v := 11) hx hb dL_law_38 (by decide) ?_
  refine lv_iconst (v := 3) hx hb dL_law_40 (by decide) ?_
  refine cc_iVM (As := [.int 11, .int 3]) (rest := []) (wr := [(o, .inl (cI, 4, .inl f))]) ⟨hx, hb, hml, hown, hts⟩ (k_X9_sign l D cI cZ ad uI 11 3 e3) (cwV 2 hts (gwV mw_305 mw_306 mw_307 mw_19 mw_308) rfl rfl rfl (by decide +kernel) ⟨(Nat.le_of_ble_eq_true rfl), (Nat.le_of_ble_eq_true rfl)⟩) hK hP hD hS hA hZ [1, 2, 3, 4, 5, 6, 7, 8, 9, 10, 11, 12, 13, 14, 15, 16, 17, 18, 19, 20, 21, 22, 23, 24, 25, 26, 27, 28, 29, 30, 31, 32, 33, 34, 35] [0] rfl rfl (by decide) rfl (by decide) (by decide) (ci := 9) (q0 := 0) rfl rfl rfl hl.1 rfl (Nat.le_of_ble_eq_true rfl) dL_law_41 ⟨(Nat.le_of_ble_eq_true rfl), (Nat.le_of_ble_eq_true rfl)⟩ (fun H4 locs hP hD hS hz4 => ?_)
  replace hP : va_P D vwCl (wD cI cZ ad o f x3) H4 := hP
  replace hD : va_D (fun q : Nat => s.heap.size ≤ q) (wD cI cZ ad o f x3) := hD
  replace hP : va_P D vwCl (wD cI cZ ad o f uI) H4 := wD_sw g3 hP
  replace hD : va_D (fun q : Nat => s.heap.size ≤ q) (wD cI cZ ad o f uI) := wD_swD hD
  obtain ⟨x4, e4, g4⟩ := ox_r ev_proof
  refine lv_if_ne (tgt := 71) hx hb dL_law_44 (by decide) (fun c9 => absurd rfl c9) (fun _ => ?_)
  refine lv_aload_n hx hb dL_law_47 rfl (lv_at hl 1 rfl) ?_
  refine lv_iconst (v := 0) hx hb dL_law_48 (by decide) ?_
  refine lv_iconst (v := 5) hx hb dL_law_49 (by decide) ?_
  refine lv_iconst (v := 0) hx hb dL_law_50 (by decide) ?_
  refine cc_iVM (As := [.int 0, .int 5, .int 0]) (rest := []) (wr := [(o, .inl (cI, 4, .inl f))]) ⟨hx, hb, hml, hown, hts⟩ (k_X9_proof l D cI cZ ad uI 0 5 0 e4) (cwV 3 hts (gwV mw_428 mw_429 mw_430 mw_19 mw_431) rfl rfl rfl (by decide +kernel) ⟨(Nat.le_of_ble_eq_true rfl), (Nat.le_of_ble_eq_true rfl)⟩) hK hP hD hS hA hZ [1, 2, 3, 4, 5, 6, 7, 8, 9, 10, 11, 12, 13, 14, 15, 16, 17, 18, 19, 20, 21, 22, 23, 24, 25, 26, 27, 28, 29, 30, 31, 32, 33, 34, 35] [0] rfl rfl (by decide) rfl (by decide) (by decide) (ci := 9) (q0 := 0) rfl rfl rfl hl.1 rfl (Nat.le_of_ble_eq_true rfl) dL_law_51 ⟨(Nat.le_of_ble_eq_true rfl), (Nat.le_of_ble_eq_true rfl)⟩ (fun H5 locs hP hD hS hz5 => ?_)
  replace hP : va_P D vwCl (wD cI cZ ad o f x4) H5 := hP
  replace hD : va_D (fun q : Nat => s.heap.size ≤ q) (wD cI cZ ad o f x4) := hD
  replace hP : va_P D vwCl (wD cI cZ ad o f uI) H5 := wD_sw g4 hP
  replace hD : va_D (fun q : Nat => s.heap.size ≤ q) (wD cI cZ ad o f uI) := wD_swD hD
  obtain ⟨x5, e5, g5⟩ := ox_r ev_shown
  refine lv_bipush (v := 120) hx hb dL_law_54 (by decide) ?_
  refine lv_icmp_ne (tgt := 71) hx hb dL_law_56 (by decide) (fun c9 => absurd rfl c9) (fun _ => ?_)
  refine lv_aload_n hx hb dL_law_59 rfl (lv_at hl 1 rfl) ?_
  refine lv_iconst (v := 0) hx hb dL_law_60 (by decide) ?_
  refine cc_iSM (As := [.ref (ad 0), .int 0]) (rest := []) (wr := [(o, .inl (cI, 4, .inl f))]) ⟨hx, hb, hml, hown, hts⟩ (k_L_isShown l D cI cZ ad uI 0 e5) (va_cwS 2 hts (gwS mw_779 mw_780 mw_18 mw_781) rfl rfl rfl (by decide +kernel) ⟨(Nat.le_of_ble_eq_true rfl), (Nat.le_of_ble_eq_true rfl)⟩) hK hP hD hS hA hZ [1, 2, 3, 4, 5, 6, 7, 8, 9, 10, 11, 12, 13, 14, 15, 16, 17, 18, 19, 20, 21, 22, 23, 24, 25, 26, 27, 28, 29, 30, 31, 32, 33, 34, 35] [0] rfl rfl (by decide) rfl (by decide) (by decide) rfl hl.1 rfl (Nat.le_of_ble_eq_true rfl) dL_law_61 ⟨(Nat.le_of_ble_eq_true rfl), (Nat.le_of_ble_eq_true rfl)⟩ (fun H6 locs hP hD hS hz6 => ?_)
  replace hP : va_P D vwCl (wD cI cZ ad o f x5) H6 := hP
  replace hD : va_D (fun q : Nat => s.heap.size ≤ q) (wD cI cZ ad o f x5) := hD
  replace hP : va_P D vwCl (wD cI cZ ad o f uI) H6 := wD_sw g5 hP
  replace hD : va_D (fun q : Nat => s.heap.size ≤ q) (wD cI cZ ad o f uI) := wD_swD hD
  refine lv_if_eq (tgt := 71) hx hb dL_law_64 (by decide) (fun c9 => absurd c9 (by decide)) (fun _ => ?_)
  refine lv_iconst (v := 1) hx hb dL_law_67 (by decide) ?_
  refine lv_goto (tgt := 72) hx hb dL_law_68 (by decide) ?_
  refine lv_istore_n (lv' := [(3, .int 1), (2, .ref o), (1, .ref (ad 0)), (0, .ref b)]) hx hb dL_law_72 rfl hl (by decide) rfl (fun ls hl => ?_)
  refine lv_aload_n hx hb dL_law_73 rfl (lv_at hl 3 rfl) ?_
  refine va_slen hx hb hX hbl hbA hS dL_law_74 ?_
  refine lv_topn (x := Int32.ofNat 210) (y := 210) (by decide +kernel) ?_
  refine lv_iconst (v := 3) hx hb dL_law_75 (by decide) ?_
  refine lv_idiv hx hb dL_law_76 (by decide) ?_
  refine lv_topn (x := (210 / 3)) (y := 70) (by decide +kernel) ?_
  refine lv_bipush (v := 70) hx hb dL_law_77 (by decide) ?_
  refine lv_icmp_le (tgt := 87) hx hb dL_law_79 (by decide) (fun _ => ?_) (fun c9 => absurd (by decide) c9)
  refine lv_aload_n hx hb dL_law_87 rfl (lv_at hl 3 rfl) ?_
  refine va_slen hx hb hX hbl hbA hS dL_law_88 ?_
  refine lv_topn (x := Int32.ofNat 210) (y := 210) (by decide +kernel) ?_
  refine lv_iconst (v := 3) hx hb dL_law_89 (by decide) ?_
  refine lv_idiv hx hb dL_law_90 (by decide) ?_
  refine lv_topn (x := (210 / 3)) (y := 70) (by decide +kernel) ?_
  refine lv_istore (lv' := [(4, .int 70), (3, .int 1), (2, .ref o), (1, .ref (ad 0)), (0, .ref b)]) hx hb dL_law_91 hl (by decide) rfl (fun ls hl => ?_)
  refine lv_iconst (v := 0) hx hb dL_law_93 (by decide) ?_
  refine lv_istore (lv' := [(5, .int 0), (4, .int 70), (3, .int 1), (2, .ref o), (1, .ref (ad 0)), (0, .ref b)]) hx hb dL_law_94 hl (by decide) rfl (fun ls hl => ?_)
  replace hl : lv_has ls 6 [(5, .int (nJ 0)), (4, .int 70), (3, .int 1), (2, .ref o), (1, .ref (ad 0)), (0, .ref b)] := lv_sub hl [0, 1, 2, 3, 4, 5] rfl
  have hz0 : s.heap.size ≤ H6.size := hS.1
  obtain ⟨y1, a1, q1⟩ := ob_ex ev_stopA
  obtain ⟨q2, q3⟩ := Bool.and_eq_true_iff.mp q1
  obtain ⟨y2, a2, q4⟩ := ox_e q3
  obtain ⟨y3, a3, q5⟩ := ox_r ev_road
  obtain ⟨y0, y1⟩ := y1
  cases y0 with
  | inr E => cases q2
  | inl r =>
    refine lbody hl0 C0 hK hZ (u := uI) (u2 := y2) (v2 := uS) (lo := 1) (cells := 36) (slots := 1187) (k := 0) (by decide) (by decide) (by decide) (kA_L_step l hl0 D cI cZ ad o f a1 a2) q4 a3 hP hD hS hl (fun H9 locs ls hP hD hS hl hz9 => ?_)
    exact lloop hl0 C0 hK hZ 69 1 (by decide) (Nat.le_refl _) H9 locs ls (wD_sw q5 hP) (wD_swD hD) hS hl (by omega)
