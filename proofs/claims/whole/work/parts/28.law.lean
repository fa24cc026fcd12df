set_option maxHeartbeats 4000000 in
set_option maxRecDepth 100000 in
theorem lc_demand {p : Program} {l : Launch} {e : Env} {s : State} {m : MethodId} {below : List Frame} {meth : Method} {c : Code} {b L : Nat} {xs : Nat → Int32} (hl0 : l.stackTraces = false) (C0 : lw_At p s m meth c b L xs) (hZ : cst (fun q : Nat => s.heap.size ≤ q) s) {D : va_G} {cI cZ cJ : ClassId} (hK : va_K D vwCl [(cI, .int), (cZ, .boolean), (cJ, .long)] s) {Rel : GS → MS → Prop} {am ad : Nat → Nat} {o : Nat} {f : Nat → Int64} {u : GS} {v : MS} {i : Int32} {j : Nat} (hj : j ≤ 511) (hi : lin i L) {p1 : Int32} (hp1 : xs (i + 1).toNatClampNeg = p1) (hsim : SI Rel (g_X9_demand u p1) (g_X10_demand v p1) [("java/lang/IllegalArgumentException", 1)]) {H : Heap} {locs : List Loc} {ls : Array Slot} (hP : va_P D vwCl (wM cI cZ am v ++ wL cI cZ cJ ad o f u) H) (hD : va_D (fun q : Nat => s.heap.size ≤ q) (wM cI cZ am v ++ wL cI cZ cJ ad o f u)) (hS : va_S (fun q : Nat => s.heap.size ≤ q) s.heap H locs) (hl : lv_has ls 7 [(0, .ref b), (1, .ref (ad 0)), (2, .ref (am 0)), (3, .ref o), (4, .int i)]) (kk : ∀ (u' : GS) (v' : MS) (f' : Nat → Int64) (H : Heap) (locs : List Loc) (ls : Array Slot), Rel u' v' → va_P D vwCl (wM cI cZ am v' ++ wL cI cZ cJ ad o f' u') H → va_D (fun q : Nat => s.heap.size ≤ q) (wM cI cZ am v' ++ wL cI cZ cJ ad o f' u') → va_S (fun q : Nat => s.heap.size ≤ q) s.heap H locs → lv_has ls 7 [(0, .ref b), (1, .ref (ad 0)), (2, .ref (am 0)), (3, .ref o), (4, .int i)] → W p l e room_1 s m #[Value.ref b] below meth c H locs (60 + (j + 1)) (5141 + 6 * (j + 1)) (lw_Z below #[Value.ref b] s) (F0 m 1764 ls [])) : W p l e room_1 s m #[Value.ref b] below meth c H locs (60 + j) (5141 + 6 * j) (lw_Z below #[Value.ref b] s) (F0 m 160 ls []) := by
  obtain ⟨hx, hb, hr, hml, hown, hts0, hX, hbl, hlocks, hgv⟩ := id C0
  have hts : ∀ w ∈ Wall, w.before #[Value.ref b] s = true := fun w h => hts0 w (wall_tbl w h)
  have hA : ∀ q : Nat, s.heap.size ≤ q → (fun q : Nat => s.heap.size ≤ q) q := fun _ h => h
  have hbA : ¬ (fun q : Nat => s.heap.size ≤ q) b := Nat.not_le.mpr hbl
  obtain ⟨-, hi1, hi2, hi3, hi4, hi5⟩ := hi
  rcases hsim with ⟨r, u', v', hc, hm, ht, hrel⟩ | ⟨q, u', b9, v', hq, hc, hm, ht, hrel⟩
  · refine lv_aload_n hx hb dL_law_160 rfl (lv_at hl 1 rfl) ?_
    refine lv_aload_n hx hb dL_law_161 rfl (lv_at hl 0 rfl) ?_
    refine lv_iload hx hb dL_law_162 (lv_at hl 4 rfl) ?_
    refine lv_iconst (v := 1) hx hb dL_law_164 (by decide) ?_
    refine lv_iadd hx hb dL_law_165 ?_
    refine va_sld hx hb hX hbl hbA hS hi1 dL_law_166 ?_
    refine lv_topn hp1 ?_
    refine lv_aload_n hx hb dL_law_167 rfl (lv_at hl 3 rfl) ?_
    refine cc_iSHF (As := [.ref (ad 0), .int p1, .ref o]) (rest := []) (wr := wM cI cZ am v) ⟨hx, hb, hml, hown, hts⟩ (k_L_demand l D cI cZ cJ ad o f u p1 hc) (vx_cwSW 3 hts (gwSH mw_383 mw_384 mw_47 mw_385) rfl rfl rfl (by decide +kernel) ⟨(Nat.le_of_ble_eq_true rfl), (Nat.le_of_ble_eq_true rfl)⟩) hK hP hD hS hA hZ [24, 25, 26, 27, 28, 29, 30, 31, 32, 33, 34, 35, 36, 37, 38, 39, 40, 41, 42, 43, 44, 45, 46, 47, 48, 49, 50, 51, 52, 53, 54, 55, 56, 57, 58, 59] [0, 1, 2, 3, 4, 5, 6, 7, 8, 9, 10, 11, 12, 13, 14, 15, 16, 17, 18, 19, 20, 21, 22, 23] rfl rfl (by decide) rfl (by decide) (by decide) rfl hl.1 rfl (Nat.le_of_ble_eq_true rfl) dL_law_168 ⟨by show 60 + j ≤ 1087; omega, by show 5141 + 6 * j ≤ 13351; omega⟩ (fun H locs hP hD hS => ?_)
    replace hP : va_P D vwCl (wM cI cZ am v ++ wL cI cZ cJ ad o (vp_updL f (0 : Int32).toNatClampNeg r.toInt64) u') H := hP
    replace hD : va_D (fun q : Nat => s.heap.size ≤ q) (wM cI cZ am v ++ wL cI cZ cJ ad o (vp_updL f (0 : Int32).toNatClampNeg r.toInt64) u') := hD
    refine W.widen (k := 60 + (j + 1)) (n := 5141 + 6 * (j + 1)) (by omega) (by omega) ?_
    refine lv_istore (lv' := [(5, .int 0), (0, .ref b), (1, .ref (ad 0)), (2, .ref (am 0)), (3, .ref o), (4, .int i)]) hx hb dL_law_171 hl (by decide) rfl (fun ls hl => ?_)
    refine lv_aload_n hx hb dL_law_173 rfl (lv_at hl 3 rfl) ?_
    refine lv_aload_n hx hb dL_law_174 rfl (lv_at hl 1 rfl) ?_
    refine lv_iload hx hb dL_law_175 (lv_at hl 5 rfl) ?_
    refine lv_iconst (v := 1) hx hb dL_law_177 (by decide) ?_
    refine lv_iadd hx hb dL_law_178 ?_
    refine va_sld hx hb hX hbl hbA hS hi1 dL_law_179 ?_
    refine lv_topn hp1 ?_
    refine cc_iVF (As := [.int p1]) (rest := []) (wr := wL cI cZ cJ ad o (vp_updL f (0 : Int32).toNatClampNeg r.toInt64) u') ⟨hx, hb, hml, hown, hts⟩ (k_X10_demand l D cI cZ am v p1 hm) (cwV 1 hts (gwV mw_972 mw_973 mw_974 mw_59 mw_975) rfl rfl rfl (by decide +kernel) ⟨(Nat.le_of_ble_eq_true rfl), (Nat.le_of_ble_eq_true rfl)⟩) (hK.sub [0, 1] rfl) hP hD hS hA hZ [0, 1, 2, 3, 4, 5, 6, 7, 8, 9, 10, 11, 12, 13, 14, 15, 16, 17, 18, 19, 20, 21, 22, 23] [24, 25, 26, 27, 28, 29, 30, 31, 32, 33, 34, 35, 36, 37, 38, 39, 40, 41, 42, 43, 44, 45, 46, 47, 48, 49, 50, 51, 52, 53, 54, 55, 56, 57, 58, 59] rfl rfl (by decide) rfl (by decide) (by decide) (ci := 10) (q0 := 0) rfl rfl rfl hl.1 rfl (Nat.le_of_ble_eq_true rfl) dL_law_180 ⟨by show 60 + (j + 1) ≤ 1087; omega, by show 5141 + 6 * (j + 1) ≤ 13351; omega⟩ (fun H locs hP hD hS => ?_)
    replace hP : va_P D vwCl (wM cI cZ am v' ++ wL cI cZ cJ ad o (vp_updL f (0 : Int32).toNatClampNeg r.toInt64) u') H := hP.sub [36, 37, 38, 39, 40, 41, 42, 43, 44, 45, 46, 47, 48, 49, 50, 51, 52, 53, 54, 55, 56, 57, 58, 59, 0, 1, 2, 3, 4, 5, 6, 7, 8, 9, 10, 11, 12, 13, 14, 15, 16, 17, 18, 19, 20, 21, 22, 23, 24, 25, 26, 27, 28, 29, 30, 31, 32, 33, 34, 35] rfl
    replace hD : va_D (fun q : Nat => s.heap.size ≤ q) (wM cI cZ am v' ++ wL cI cZ cJ ad o (vp_updL f (0 : Int32).toNatClampNeg r.toInt64) u') := hD.sub [36, 37, 38, 39, 40, 41, 42, 43, 44, 45, 46, 47, 48, 49, 50, 51, 52, 53, 54, 55, 56, 57, 58, 59, 0, 1, 2, 3, 4, 5, 6, 7, 8, 9, 10, 11, 12, 13, 14, 15, 16, 17, 18, 19, 20, 21, 22, 23, 24, 25, 26, 27, 28, 29, 30, 31, 32, 33, 34, 35] (by decide) rfl
    refine lv_istore (lv' := [(6, .int r), (5, .int 0), (0, .ref b), (1, .ref (ad 0)), (2, .ref (am 0)), (3, .ref o), (4, .int i)]) hx hb dL_law_183 hl (by decide) rfl (fun ls hl => ?_)
    refine lv_aload_n hx hb dL_law_185 rfl (lv_at hl 4 rfl) ?_
    refine cc_iVF (As := []) (rest := []) (wr := wL cI cZ cJ ad o (vp_updL f (0 : Int32).toNatClampNeg r.toInt64) u') ⟨hx, hb, hml, hown, hts⟩ (k_X10_thrown l D cI cZ am v' rfl) (cwV 0 hts (gwV mw_968 mw_969 mw_970 mw_59 mw_971) rfl rfl rfl (by decide +kernel) ⟨(Nat.le_of_ble_eq_true rfl), (Nat.le_of_ble_eq_true rfl)⟩) (hK.sub [0, 1] rfl) hP hD hS hA hZ [0, 1, 2, 3, 4, 5, 6, 7, 8, 9, 10, 11, 12, 13, 14, 15, 16, 17, 18, 19, 20, 21, 22, 23] [24, 25, 26, 27, 28, 29, 30, 31, 32, 33, 34, 35, 36, 37, 38, 39, 40, 41, 42, 43, 44, 45, 46, 47, 48, 49, 50, 51, 52, 53, 54, 55, 56, 57, 58, 59] rfl rfl (by decide) rfl (by decide) (by decide) (ci := 10) (q0 := 0) rfl rfl rfl hl.1 rfl (Nat.le_of_ble_eq_true rfl) dL_law_186 ⟨by show 60 + (j + 1) ≤ 1087; omega, by show 5141 + 6 * (j + 1) ≤ 13351; omega⟩ (fun H locs hP hD hS => ?_)
    replace hP : va_P D vwCl (wM cI cZ am v' ++ wL cI cZ cJ ad o (vp_updL f (0 : Int32).toNatClampNeg r.toInt64) u') H := hP.sub [36, 37, 38, 39, 40, 41, 42, 43, 44, 45, 46, 47, 48, 49, 50, 51, 52, 53, 54, 55, 56, 57, 58, 59, 0, 1, 2, 3, 4, 5, 6, 7, 8, 9, 10, 11, 12, 13, 14, 15, 16, 17, 18, 19, 20, 21, 22, 23, 24, 25, 26, 27, 28, 29, 30, 31, 32, 33, 34, 35] rfl
    replace hD : va_D (fun q : Nat => s.heap.size ≤ q) (wM cI cZ am v' ++ wL cI cZ cJ ad o (vp_updL f (0 : Int32).toNatClampNeg r.toInt64) u') := hD.sub [36, 37, 38, 39, 40, 41, 42, 43, 44, 45, 46, 47, 48, 49, 50, 51, 52, 53, 54, 55, 56, 57, 58, 59, 0, 1, 2, 3, 4, 5, 6, 7, 8, 9, 10, 11, 12, 13, 14, 15, 16, 17, 18, 19, 20, 21, 22, 23, 24, 25, 26, 27, 28, 29, 30, 31, 32, 33, 34, 35] (by decide) rfl
    refine lv_iload hx hb dL_law_189 (lv_at hl 1 rfl) ?_
    refine lv_icmp_eq (tgt := 196) hx hb dL_law_191 (by decide) (fun _ => ?_) (fun c1 => absurd ht c1)
    refine lv_iload hx hb dL_law_196 (lv_at hl 1 rfl) ?_
    refine lv_if_ne (tgt := 213) hx hb dL_law_198 (by decide) (fun c1 => absurd rfl c1) (fun _ => ?_)
    refine lv_aload_n hx hb dL_law_201 rfl (lv_at hl 5 rfl) ?_
    refine lv_iconst (v := 0) hx hb dL_law_202 (by decide) ?_
    refine va_lald (D := D) hx hb hK hP 24 2 rfl rfl (by unfold vp_in; decide) dL_law_203 ?_
    refine lv_iload hx hb dL_law_204 (lv_at hl 0 rfl) ?_
    refine lv_i2l (v := r.toInt64) hx hb dL_law_206 rfl ?_
    refine W.lcmp hx hb dL_law_207 ?_
    refine lv_if_eq (tgt := 213) hx hb dL_law_208 (by decide) (fun _ => ?_) (fun c2 => absurd (by simp [lg_cmp, vp_updL]) c2)
    refine lv_goto (tgt := 1764) hx hb dL_law_213 (by decide) ?_
    exact kk _ _ _ _ _ ls hrel hP hD hS (lv_sub hl [2, 3, 4, 5, 6] rfl)
  · rcases List.mem_cons.mp hq with rfl | hq
    · refine lv_aload_n hx hb dL_law_160 rfl (lv_at hl 1 rfl) ?_
      refine lv_aload_n hx hb dL_law_161 rfl (lv_at hl 0 rfl) ?_
      refine lv_iload hx hb dL_law_162 (lv_at hl 4 rfl) ?_
      refine lv_iconst (v := 1) hx hb dL_law_164 (by decide) ?_
      refine lv_iadd hx hb dL_law_165 ?_
      refine va_sld hx hb hX hbl hbA hS hi1 dL_law_166 ?_
      refine lv_topn hp1 ?_
      refine lv_aload_n hx hb dL_law_167 rfl (lv_at hl 3 rfl) ?_
      refine cc_iSHF (As := [.ref (ad 0), .int p1, .ref o]) (rest := []) (wr := wM cI cZ am v) ⟨hx, hb, hml, hown, hts⟩ (kx1_L_demand l hl0 D cI cZ cJ ad o f u p1 hc) (vx_cwSW 3 hts (gwSH mw_383 mw_384 mw_47 mw_385) rfl rfl rfl (by decide +kernel) ⟨(Nat.le_of_ble_eq_true rfl), (Nat.le_of_ble_eq_true rfl)⟩) hK hP hD hS hA hZ [24, 25, 26, 27, 28, 29, 30, 31, 32, 33, 34, 35, 36, 37, 38, 39, 40, 41, 42, 43, 44, 45, 46, 47, 48, 49, 50, 51, 52, 53, 54, 55, 56, 57, 58, 59] [0, 1, 2, 3, 4, 5, 6, 7, 8, 9, 10, 11, 12, 13, 14, 15, 16, 17, 18, 19, 20, 21, 22, 23] rfl rfl (by decide) rfl (by decide) (by decide) rfl hl.1 rfl (Nat.le_of_ble_eq_true rfl) dL_law_168 ⟨by show 60 + j + 1 ≤ 1087; omega, by show 5141 + 6 * j + 6 ≤ 13351; omega⟩ (fun H locs hP hD hS => ?_)
      replace hP : va_P D vwCl (wM cI cZ am v ++ wL cI cZ cJ ad o f u') H := hP
      replace hD : va_D (fun q : Nat => s.heap.size ≤ q) (wM cI cZ am v ++ wL cI cZ cJ ad o f u') := hD
      refine W.widen (k := 60 + (j + 1)) (n := 5141 + 6 * (j + 1)) (by omega) (by omega) ?_
      refine lv_istore (lv' := [(5, .int 1), (0, .ref b), (1, .ref (ad 0)), (2, .ref (am 0)), (3, .ref o), (4, .int i)]) hx hb dL_law_171 hl (by decide) rfl (fun ls hl => ?_)
      refine lv_aload_n hx hb dL_law_173 rfl (lv_at hl 3 rfl) ?_
      refine lv_aload_n hx hb dL_law_174 rfl (lv_at hl 1 rfl) ?_
      refine lv_iload hx hb dL_law_175 (lv_at hl 5 rfl) ?_
      refine lv_iconst (v := 1) hx hb dL_law_177 (by decide) ?_
      refine lv_iadd hx hb dL_law_178 ?_
      refine va_sld hx hb hX hbl hbA hS hi1 dL_law_179 ?_
      refine lv_topn hp1 ?_
      refine cc_iVF (As := [.int p1]) (rest := []) (wr := wL cI cZ cJ ad o f u') ⟨hx, hb, hml, hown, hts⟩ (k_X10_demand l D cI cZ am v p1 hm) (cwV 1 hts (gwV mw_972 mw_973 mw_974 mw_59 mw_975) rfl rfl rfl (by decide +kernel) ⟨(Nat.le_of_ble_eq_true rfl), (Nat.le_of_ble_eq_true rfl)⟩) (hK.sub [0, 1] rfl) hP hD hS hA hZ [0, 1, 2, 3, 4, 5, 6, 7, 8, 9, 10, 11, 12, 13, 14, 15, 16, 17, 18, 19, 20, 21, 22, 23] [24, 25, 26, 27, 28, 29, 30, 31, 32, 33, 34, 35, 36, 37, 38, 39, 40, 41, 42, 43, 44, 45, 46, 47, 48, 49, 50, 51, 52, 53, 54, 55, 56, 57, 58, 59] rfl rfl (by decide) rfl (by decide) (by decide) (ci := 10) (q0 := 0) rfl rfl rfl hl.1 rfl (Nat.le_of_ble_eq_true rfl) dL_law_180 ⟨by show 60 + (j + 1) ≤ 1087; omega, by show 5141 + 6 * (j + 1) ≤ 13351; omega⟩ (fun H locs hP hD hS => ?_)
      replace hP : va_P D vwCl (wM cI cZ am v' ++ wL cI cZ cJ ad o f u') H := hP.sub [36, 37, 38, 39, 40, 41, 42, 43, 44, 45, 46, 47, 48, 49, 50, 51, 52, 53, 54, 55, 56, 57, 58, 59, 0, 1, 2, 3, 4, 5, 6, 7, 8, 9, 10, 11, 12, 13, 14, 15, 16, 17, 18, 19, 20, 21, 22, 23, 24, 25, 26, 27, 28, 29, 30, 31, 32, 33, 34, 35] rfl
      replace hD : va_D (fun q : Nat => s.heap.size ≤ q) (wM cI cZ am v' ++ wL cI cZ cJ ad o f u') := hD.sub [36, 37, 38, 39, 40, 41, 42, 43, 44, 45, 46, 47, 48, 49, 50, 51, 52, 53, 54, 55, 56, 57, 58, 59, 0, 1, 2, 3, 4, 5, 6, 7, 8, 9, 10, 11, 12, 13, 14, 15, 16, 17, 18, 19, 20, 21, 22, 23, 24, 25, 26, 27, 28, 29, 30, 31, 32, 33, 34, 35] (by decide) rfl
      refine lv_istore (lv' := [(6, .int b9), (5, .int 1), (0, .ref b), (1, .ref (ad 0)), (2, .ref (am 0)), (3, .ref o), (4, .int i)]) hx hb dL_law_183 hl (by decide) rfl (fun ls hl => ?_)
      refine lv_aload_n hx hb dL_law_185 rfl (lv_at hl 4 rfl) ?_
      refine cc_iVF (As := []) (rest := []) (wr := wL cI cZ cJ ad o f u') ⟨hx, hb, hml, hown, hts⟩ (k_X10_thrown l D cI cZ am v' rfl) (cwV 0 hts (gwV mw_968 mw_969 mw_970 mw_59 mw_971) rfl rfl rfl (by decide +kernel) ⟨(Nat.le_of_ble_eq_true rfl), (Nat.le_of_ble_eq_true rfl)⟩) (hK.sub [0, 1] rfl) hP hD hS hA hZ [0, 1, 2, 3, 4, 5, 6, 7, 8, 9, 10, 11, 12, 13, 14, 15, 16, 17, 18, 19, 20, 21, 22, 23] [24, 25, 26, 27, 28, 29, 30, 31, 32, 33, 34, 35, 36, 37, 38, 39, 40, 41, 42, 43, 44, 45, 46, 47, 48, 49, 50, 51, 52, 53, 54, 55, 56, 57, 58, 59] rfl rfl (by decide) rfl (by decide) (by decide) (ci := 10) (q0 := 0) rfl rfl rfl hl.1 rfl (Nat.le_of_ble_eq_true rfl) dL_law_186 ⟨by show 60 + (j + 1) ≤ 1087; omega, by show 5141 + 6 * (j + 1) ≤ 13351; omega⟩ (fun H locs hP hD hS => ?_)
      replace hP : va_P D vwCl (wM cI cZ am v' ++ wL cI cZ cJ ad o f u') H := hP.sub [36, 37, 38, 39, 40, 41, 42, 43, 44, 45, 46, 47, 48, 49, 50, 51, 52, 53, 54, 55, 56, 57, 58, 59, 0, 1, 2, 3, 4, 5, 6, 7, 8, 9, 10, 11, 12, 13, 14, 15, 16, 17, 18, 19, 20, 21, 22, 23, 24, 25, 26, 27, 28, 29, 30, 31, 32, 33, 34, 35] rfl
      replace hD : va_D (fun q : Nat => s.heap.size ≤ q) (wM cI cZ am v' ++ wL cI cZ cJ ad o f u') := hD.sub [36, 37, 38, 39, 40, 41, 42, 43, 44, 45, 46, 47, 48, 49, 50, 51, 52, 53, 54, 55, 56, 57, 58, 59, 0, 1, 2, 3, 4, 5, 6, 7, 8, 9, 10, 11, 12, 13, 14, 15, 16, 17, 18, 19, 20, 21, 22, 23, 24, 25, 26, 27, 28, 29, 30, 31, 32, 33, 34, 35] (by decide) rfl
      refine lv_iload hx hb dL_law_189 (lv_at hl 1 rfl) ?_
      refine lv_icmp_eq (tgt := 196) hx hb dL_law_191 (by decide) (fun _ => ?_) (fun c1 => absurd ht c1)
      refine lv_iload hx hb dL_law_196 (lv_at hl 1 rfl) ?_
      refine lv_if_ne (tgt := 213) hx hb dL_law_198 (by decide) (fun _ => ?_) (fun c1 => absurd c1 (by decide))
      refine lv_goto (tgt := 1764) hx hb dL_law_213 (by decide) ?_
      exact kk _ _ _ _ _ ls hrel hP hD hS (lv_sub hl [2, 3, 4, 5, 6] rfl)
    · exact absurd hq List.not_mem_nil

set_option maxHeartbeats 4000000 in
set_option maxRecDepth 100000 in
theorem lc_pass {p : Program} {l : Launch} {e : Env} {s : State} {m : MethodId} {below : List Frame} {meth : Method} {c : Code} {b L : Nat} {xs : Nat → Int32} (hl0 : l.stackTraces = false) (C0 : lw_At p s m meth c b L xs) (hZ : cst (fun q : Nat => s.heap.size ≤ q) s) {D : va_G} {cI cZ cJ : ClassId} (hK : va_K D vwCl [(cI, .int), (cZ, .boolean), (cJ, .long)] s) {Rel : GS → MS → Prop} {am ad : Nat → Nat} {o : Nat} {f : Nat → Int64} {u : GS} {v : MS} {i : Int32} {j : Nat} (hj : j ≤ 511) (hi : lin i L) {p1 : Int32} (hp1 : xs (i + 1).toNatClampNeg = p1) (hsim : SI Rel (g_X9_pass u p1) (g_X10_pass v p1) [("java/lang/IllegalArgumentException", 1), ("java/lang/IllegalStateException", 2)]) {H : Heap} {locs : List Loc} {ls : Array Slot} (hP : va_P D vwCl (wM cI cZ am v ++ wL cI cZ cJ ad o f u) H) (hD : va_D (fun q : Nat => s.heap.size ≤ q) (wM cI cZ am v ++ wL cI cZ cJ ad o f u)) (hS : va_S (fun q : Nat => s.heap.size ≤ q) s.heap H locs) (hl : lv_has ls 7 [(0, .ref b), (1, .ref (ad 0)), (2, .ref (am 0)), (3, .ref o), (4, .int i)]) (kk : ∀ (u' : GS) (v' : MS) (f' : Nat → Int64) (H : Heap) (locs : List Loc) (ls : Array Slot), Rel u' v' → va_P D vwCl (wM cI cZ am v' ++ wL cI cZ cJ ad o f' u') H → va_D (fun q : Nat => s.heap.size ≤ q) (wM cI cZ am v' ++ wL cI cZ cJ ad o f' u') → va_S (fun q : Nat => s.heap.size ≤ q) s.heap H locs → lv_has ls 7 [(0, .ref b), (1, .ref (ad 0)), (2, .ref (am 0)), (3, .ref o), (4, .int i)] → W p l e room_1 s m #[Value.ref b] below meth c H locs (60 + (j + 1)) (5141 + 6 * (j + 1)) (lw_Z below #[Value.ref b] s) (F0 m 1764 ls [])) : W p l e room_1 s m #[Value.ref b] below meth c H locs (60 + j) (5141 + 6 * j) (lw_Z below #[Value.ref b] s) (F0 m 216 ls []) := by
  obtain ⟨hx, hb, hr, hml, hown, hts0, hX, hbl, hlocks, hgv⟩ := id C0
  have hts : ∀ w ∈ Wall, w.before #[Value.ref b] s = true := fun w h => hts0 w (wall_tbl w h)
  have hA : ∀ q : Nat, s.heap.size ≤ q → (fun q : Nat => s.heap.size ≤ q) q := fun _ h => h
  have hbA : ¬ (fun q : Nat => s.heap.size ≤ q) b := Nat.not_le.mpr hbl
  obtain ⟨-, hi1, hi2, hi3, hi4, hi5⟩ := hi
  rcases hsim with ⟨r, u', v', hc, hm, ht, hrel⟩ | ⟨q, u', b9, v', hq, hc, hm, ht, hrel⟩
  · refine lv_aload_n hx hb dL_law_216 rfl (lv_at hl 1 rfl) ?_
    refine lv_aload_n hx hb dL_law_217 rfl (lv_at hl 0 rfl) ?_
    refine lv_iload hx hb dL_law_218 (lv_at hl 4 rfl) ?_
    refine lv_iconst (v := 1) hx hb dL_law_220 (by decide) ?_
    refine lv_iadd hx hb dL_law_221 ?_
    refine va_sld hx hb hX hbl hbA hS hi1 dL_law_222 ?_
    refine lv_topn hp1 ?_
    refine lv_aload_n hx hb dL_law_223 rfl (lv_at hl 3 rfl) ?_
    refine cc_iSHF (As := [.ref (ad 0), .int p1, .ref o]) (rest := []) (wr := wM cI cZ am v) ⟨hx, hb, hml, hown, hts⟩ (k_L_pass l D cI cZ cJ ad o f u p1 hc) (vx_cwSW 3 hts (gwSH mw_463 mw_464 mw_47 mw_465) rfl rfl rfl (by decide +kernel) ⟨(Nat.le_of_ble_eq_true rfl), (Nat.le_of_ble_eq_true rfl)⟩) hK hP hD hS hA hZ [24, 25, 26, 27, 28, 29, 30, 31, 32, 33, 34, 35, 36, 37, 38, 39, 40, 41, 42, 43, 44, 45, 46, 47, 48, 49, 50, 51, 52, 53, 54, 55, 56, 57, 58, 59] [0, 1, 2, 3, 4, 5, 6, 7, 8, 9, 10, 11, 12, 13, 14, 15, 16, 17, 18, 19, 20, 21, 22, 23] rfl rfl (by decide) rfl (by decide) (by decide) rfl hl.1 rfl (Nat.le_of_ble_eq_true rfl) dL_law_224 ⟨by show 60 + j ≤ 1087; omega, by show 5141 + 6 * j ≤ 13351; omega⟩ (fun H locs hP hD hS => ?_)
    replace hP : va_P D vwCl (wM cI cZ am v ++ wL cI cZ cJ ad o (vp_updL f (0 : Int32).toNatClampNeg r.toInt64) u') H := hP
    replace hD : va_D (fun q : Nat => s.heap.size ≤ q) (wM cI cZ am v ++ wL cI cZ cJ ad o (vp_updL f (0 : Int32).toNatClampNeg r.toInt64) u') := hD
    refine W.widen (k := 60 + (j + 1)) (n := 5141 + 6 * (j + 1)) (by omega) (by omega) ?_
    refine lv_istore (lv' := [(5, .int 0), (0, .ref b), (1, .ref (ad 0)), (2, .ref (am 0)), (3, .ref o), (4, .int i)]) hx hb dL_law_227 hl (by decide) rfl (fun ls hl => ?_)
    refine lv_aload_n hx hb dL_law_229 rfl (lv_at hl 3 rfl) ?_
    refine lv_aload_n hx hb dL_law_230 rfl (lv_at hl 1 rfl) ?_
    refine lv_iload hx hb dL_law_231 (lv_at hl 5 rfl) ?_
    refine lv_iconst (v := 1) hx hb dL_law_233 (by decide) ?_
    refine lv_iadd hx hb dL_law_234 ?_
    refine va_sld hx hb hX hbl hbA hS hi1 dL_law_235 ?_
    refine lv_topn hp1 ?_
    refine cc_iVF (As := [.int p1]) (rest := []) (wr := wL cI cZ cJ ad o (vp_updL f (0 : Int32).toNatClampNeg r.toInt64) u') ⟨hx, hb, hml, hown, hts⟩ (k_X10_pass l D cI cZ am v p1 hm) (cwV 1 hts (gwV mw_980 mw_981 mw_982 mw_59 mw_983) rfl rfl rfl (by decide +kernel) ⟨(Nat.le_of_ble_eq_true rfl), (Nat.le_of_ble_eq_true rfl)⟩) (hK.sub [0, 1] rfl) hP hD hS hA hZ [0, 1, 2, 3, 4, 5, 6, 7, 8, 9, 10, 11, 12, 13, 14, 15, 16, 17, 18, 19, 20, 21, 22, 23] [24, 25, 26, 27, 28, 29, 30, 31, 32, 33, 34, 35, 36, 37, 38, 39, 40, 41, 42, 43, 44, 45, 46, 47, 48, 49, 50, 51, 52, 53, 54, 55, 56, 57, 58, 59] rfl rfl (by decide) rfl (by decide) (by decide) (ci := 10) (q0 := 0) rfl rfl rfl hl.1 rfl (Nat.le_of_ble_eq_true rfl) dL_law_236 ⟨by show 60 + (j + 1) ≤ 1087; omega, by show 5141 + 6 * (j + 1) ≤ 13351; omega⟩ (fun H locs hP hD hS => ?_)
    replace hP : va_P D vwCl (wM cI cZ am v' ++ wL cI cZ cJ ad o (vp_updL f (0 : Int32).toNatClampNeg r.toInt64) u') H := hP.sub [36, 37, 38, 39, 40, 41, 42, 43, 44, 45, 46, 47, 48, 49, 50, 51, 52, 53, 54, 55, 56, 57, 58, 59, 0, 1, 2, 3, 4, 5, 6, 7, 8, 9, 10, 11, 12, 13, 14, 15, 16, 17, 18, 19, 20, 21, 22, 23, 24, 25, 26, 27, 28, 29, 30, 31, 32, 33, 34, 35] rfl
    replace hD : va_D (fun q : Nat => s.heap.size ≤ q) (wM cI cZ am v' ++ wL cI cZ cJ ad o (vp_updL f (0 : Int32).toNatClampNeg r.toInt64) u') := hD.sub [36, 37, 38, 39, 40, 41, 42, 43, 44, 45, 46, 47, 48, 49, 50, 51, 52, 53, 54, 55, 56, 57, 58, 59, 0, 1, 2, 3, 4, 5, 6, 7, 8, 9, 10, 11, 12, 13, 14, 15, 16, 17, 18, 19, 20, 21, 22, 23, 24, 25, 26, 27, 28, 29, 30, 31, 32, 33, 34, 35] (by decide) rfl
    refine lv_istore (lv' := [(6, .int r), (5, .int 0), (0, .ref b), (1, .ref (ad 0)), (2, .ref (am 0)), (3, .ref o), (4, .int i)]) hx hb dL_law_239 hl (by decide) rfl (fun ls hl => ?_)
    refine lv_aload_n hx hb dL_law_241 rfl (lv_at hl 4 rfl) ?_
    refine cc_iVF (As := []) (rest := []) (wr := wL cI cZ cJ ad o (vp_updL f (0 : Int32).toNatClampNeg r.toInt64) u') ⟨hx, hb, hml, hown, hts⟩ (k_X10_thrown l D cI cZ am v' rfl) (cwV 0 hts (gwV mw_968 mw_969 mw_970 mw_59 mw_971) rfl rfl rfl (by decide +kernel) ⟨(Nat.le_of_ble_eq_true rfl), (Nat.le_of_ble_eq_true rfl)⟩) (hK.sub [0, 1] rfl) hP hD hS hA hZ [0, 1, 2, 3, 4, 5, 6, 7, 8, 9, 10, 11, 12, 13, 14, 15, 16, 17, 18, 19, 20, 21, 22, 23] [24, 25, 26, 27, 28, 29, 30, 31, 32, 33, 34, 35, 36, 37, 38, 39, 40, 41, 42, 43, 44, 45, 46, 47, 48, 49, 50, 51, 52, 53, 54, 55, 56, 57, 58, 59] rfl rfl (by decide) rfl (by decide) (by decide) (ci := 10) (q0 := 0) rfl rfl rfl hl.1 rfl (Nat.le_of_ble_eq_true rfl) dL_law_242 ⟨by show 60 + (j + 1) ≤ 1087; omega, by show 5141 + 6 * (j + 1) ≤ 13351; omega⟩ (fun H locs hP hD hS => ?_)
    replace hP : va_P D vwCl (wM cI cZ am v' ++ wL cI cZ cJ ad o (vp_updL f (0 : Int32).toNatClampNeg r.toInt64) u') H := hP.sub [36, 37, 38, 39, 40, 41, 42, 43, 44, 45, 46, 47, 48, 49, 50, 51, 52, 53, 54, 55, 56, 57, 58, 59, 0, 1, 2, 3, 4, 5, 6, 7, 8, 9, 10, 11, 12, 13, 14, 15, 16, 17, 18, 19, 20, 21, 22, 23, 24, 25, 26, 27, 28, 29, 30, 31, 32, 33, 34, 35] rfl
    replace hD : va_D (fun q : Nat => s.heap.size ≤ q) (wM cI cZ am v' ++ wL cI cZ cJ ad o (vp_updL f (0 : Int32).toNatClampNeg r.toInt64) u') := hD.sub [36, 37, 38, 39, 40, 41, 42, 43, 44, 45, 46, 47, 48, 49, 50, 51, 52, 53, 54, 55, 56, 57, 58, 59, 0, 1, 2, 3, 4, 5, 6, 7, 8, 9, 10, 11, 12, 13, 14, 15, 16, 17, 18, 19, 20, 21, 22, 23, 24, 25, 26, 27, 28, 29, 30, 31, 32, 33, 34, 35] (by decide) rfl
    refine lv_iload hx hb dL_law_245 (lv_at hl 1 rfl) ?_
    refine lv_icmp_eq (tgt := 252) hx hb dL_law_247 (by decide) (fun _ => ?_) (fun c1 => absurd ht c1)
    refine lv_iload hx hb dL_law_252 (lv_at hl 1 rfl) ?_
    refine lv_if_ne (tgt := 269) hx hb dL_law_254 (by decide) (fun c1 => absurd rfl c1) (fun _ => ?_)
    refine lv_aload_n hx hb dL_law_257 rfl (lv_at hl 5 rfl) ?_
    refine lv_iconst (v := 0) hx hb dL_law_258 (by decide) ?_
    refine va_lald (D := D) hx hb hK hP 24 2 rfl rfl (by unfold vp_in; decide) dL_law_259 ?_
    refine lv_iload hx hb dL_law_260 (lv_at hl 0 rfl) ?_
    refine lv_i2l (v := r.toInt64) hx hb dL_law_262 rfl ?_
    refine W.lcmp hx hb dL_law_263 ?_
    refine lv_if_eq (tgt := 269) hx hb dL_law_264 (by decide) (fun _ => ?_) (fun c2 => absurd (by simp [lg_cmp, vp_updL]) c2)
    refine lv_goto (tgt := 1764) hx hb dL_law_269 (by decide) ?_
    exact kk _ _ _ _ _ ls hrel hP hD hS (lv_sub hl [2, 3, 4, 5, 6] rfl)
  · rcases List.mem_cons.mp hq with rfl | hq
    · refine lv_aload_n hx hb dL_law_216 rfl (lv_at hl 1 rfl) ?_
      refine lv_aload_n hx hb dL_law_217 rfl (lv_at hl 0 rfl) ?_
      refine lv_iload hx hb dL_law_218 (lv_at hl 4 rfl) ?_
      refine lv_iconst (v := 1) hx hb dL_law_220 (by decide) ?_
      refine lv_iadd hx hb dL_law_221 ?_
      refine va_sld hx hb hX hbl hbA hS hi1 dL_law_222 ?_
      refine lv_topn hp1 ?_
      refine lv_aload_n hx hb dL_law_223 rfl (lv_at hl 3 rfl) ?_
      refine cc_iSHF (As := [.ref (ad 0), .int p1, .ref o]) (rest := []) (wr := wM cI cZ am v) ⟨hx, hb, hml, hown, hts⟩ (kx1_L_pass l hl0 D cI cZ cJ ad o f u p1 hc) (vx_cwSW 3 hts (gwSH mw_463 mw_464 mw_47 mw_465) rfl rfl rfl (by decide +kernel) ⟨(Nat.le_of_ble_eq_true rfl), (Nat.le_of_ble_eq_true rfl)⟩) hK hP hD hS hA hZ [24, 25, 26, 27, 28, 29, 30, 31, 32, 33, 34, 35, 36, 37, 38, 39, 40, 41, 42, 43, 44, 45, 46, 47, 48, 49, 50, 51, 52, 53, 54, 55, 56, 57, 58, 59] [0, 1, 2, 3, 4, 5, 6, 7, 8, 9, 10, 11, 12, 13, 14, 15, 16, 17, 18, 19, 20, 21, 22, 23] rfl rfl (by decide) rfl (by decide) (by decide) rfl hl.1 rfl (Nat.le_of_ble_eq_true rfl) dL_law_224 ⟨by show 60 + j + 1 ≤ 1087; omega, by show 5141 + 6 * j + 6 ≤ 13351; omega⟩ (fun H locs hP hD hS => ?_)
      replace hP : va_P D vwCl (wM cI cZ am v ++ wL cI cZ cJ ad o f u') H := hP
      replace hD : va_D (fun q : Nat => s.heap.size ≤ q) (wM cI cZ am v ++ wL cI cZ cJ ad o f u') := hD
      refine W.widen (k := 60 + (j + 1)) (n := 5141 + 6 * (j + 1)) (by omega) (by omega) ?_
      refine lv_istore (lv' := [(5, .int 1), (0, .ref b), (1, .ref (ad 0)), (2, .ref (am 0)), (3, .ref o), (4, .int i)]) hx hb dL_law_227 hl (by decide) rfl (fun ls hl => ?_)
      refine lv_aload_n hx hb dL_law_229 rfl (lv_at hl 3 rfl) ?_
      refine lv_aload_n hx hb dL_law_230 rfl (lv_at hl 1 rfl) ?_
      refine lv_iload hx hb dL_law_231 (lv_at hl 5 rfl) ?_
      refine lv_iconst (v := 1) hx hb dL_law_233 (by decide) ?_
      refine lv_iadd hx hb dL_law_234 ?_
      refine va_sld hx hb hX hbl hbA hS hi1 dL_law_235 ?_
      refine lv_topn hp1 ?_
      refine cc_iVF (As := [.int p1]) (rest := []) (wr := wL cI cZ cJ ad o f u') ⟨hx, hb, hml, hown, hts⟩ (k_X10_pass l D cI cZ am v p1 hm) (cwV 1 hts (gwV mw_980 mw_981 mw_982 mw_59 mw_983) rfl rfl rfl (by decide +kernel) ⟨(Nat.le_of_ble_eq_true rfl), (Nat.le_of_ble_eq_true rfl)⟩) (hK.sub [0, 1] rfl) hP hD hS hA hZ [0, 1, 2, 3, 4, 5, 6, 7, 8, 9, 10, 11, 12, 13, 14, 15, 16, 17, 18, 19, 20, 21, 22, 23] [24, 25, 26, 27, 28, 29, 30, 31, 32, 33, 34, 35, 36, 37, 38, 39, 40, 41, 42, 43, 44, 45, 46, 47, 48, 49, 50, 51, 52, 53, 54, 55, 56, 57, 58, 59] rfl rfl (by decide) rfl (by decide) (by decide) (ci := 10) (q0 := 0) rfl rfl rfl hl.1 rfl (Nat.le_of_ble_eq_true rfl) dL_law_236 ⟨by show 60 + (j + 1) ≤ 1087; omega, by show 5141 + 6 * (j + 1) ≤ 13351; omega⟩ (fun H locs hP hD hS => ?_)
      replace hP : va_P D vwCl (wM cI cZ am v' ++ wL cI cZ cJ ad o f u') H := hP.sub [36, 37, 38, 39, 40, 41, 42, 43, 44, 45, 46, 47, 48, 49, 50, 51, 52, 53, 54, 55, 56, 57, 58, 59, 0, 1, 2, 3, 4, 5, 6, 7, 8, 9, 10, 11, 12, 13, 14, 15, 16, 17, 18, 19, 20, 21, 22, 23, 24, 25, 26, 27, 28, 29, 30, 31, 32, 33, 34, 35] rfl
      replace hD : va_D (fun q : Nat => s.heap.size ≤ q) (wM cI cZ am v' ++ wL cI cZ cJ ad o f u') := hD.sub [36, 37, 38, 39, 40, 41, 42, 43, 44, 45, 46, 47, 48, 49, 50, 51, 52, 53, 54, 55, 56, 57, 58, 59, 0, 1, 2, 3, 4, 5, 6, 7, 8, 9, 10, 11, 12, 13, 14, 15, 16, 17, 18, 19, 20, 21, 22, 23, 24, 25, 26, 27, 28, 29, 30, 31, 32, 33, 34, 35] (by decide) rfl
      refine lv_istore (lv' := [(6, .int b9), (5, .int 1), (0, .ref b), (1, .ref (ad 0)), (2, .ref (am 0)), (3, .ref o), (4, .int i)]) hx hb dL_law_239 hl (by decide) rfl (fun ls hl => ?_)
      refine lv_aload_n hx hb dL_law_241 rfl (lv_at hl 4 rfl) ?_
      refine cc_iVF (As := []) (rest := []) (wr := wL cI cZ cJ ad o f u') ⟨hx, hb, hml, hown, hts⟩ (k_X10_thrown l D cI cZ am v' rfl) (cwV 0 hts (gwV mw_968 mw_969 mw_970 mw_59 mw_971) rfl rfl rfl (by decide +kernel) ⟨(Nat.le_of_ble_eq_true rfl), (Nat.le_of_ble_eq_true rfl)⟩) (hK.sub [0, 1] rfl) hP hD hS hA hZ [0, 1, 2, 3, 4, 5, 6, 7, 8, 9, 10, 11, 12, 13, 14, 15, 16, 17, 18, 19, 20, 21, 22, 23] [24, 25, 26, 27, 28, 29, 30, 31, 32, 33, 34, 35, 36, 37, 38, 39, 40, 41, 42, 43, 44, 45, 46, 47, 48, 49, 50, 51, 52, 53, 54, 55, 56, 57, 58, 59] rfl rfl (by decide) rfl (by decide) (by decide) (ci := 10) (q0 := 0) rfl rfl rfl hl.1 rfl (Nat.le_of_ble_eq_true rfl) dL_law_242 ⟨by show 60 + (j + 1) ≤ 1087; omega, by show 5141 + 6 * (j + 1) ≤ 13351; omega⟩ (fun H locs hP hD hS => ?_)
      replace hP : va_P D vwCl (wM cI cZ am v' ++ wL cI cZ cJ ad o f u') H := hP.sub [36, 37, 38, 39, 40, 41, 42, 43, 44, 45, 46, 47, 48, 49, 50, 51, 52, 53, 54, 55, 56, 57, 58, 59, 0, 1, 2, 3, 4, 5, 6, 7, 8, 9, 10, 11, 12, 13, 14, 15, 16, 17, 18, 19, 20, 21, 22, 23, 24, 25, 26, 27, 28, 29, 30, 31, 32, 33, 34, 35] rfl
      replace hD : va_D (fun q : Nat => s.heap.size ≤ q) (wM cI cZ am v' ++ wL cI cZ cJ ad o f u') := hD.sub [36, 37, 38, 39, 40, 41, 42, 43, 44, 45, 46, 47, 48, 49, 50, 51, 52, 53, 54, 55, 56, 57, 58, 59, 0, 1, 2, 3, 4, 5, 6, 7, 8, 9, 10, 11, 12, 13, 14, 15, 16, 17, 18, 19, 20, 21, 22, 23, 24, 25, 26, 27, 28, 29, 30, 31, 32, 33, 34, 35] (by decide) rfl
      refine lv_iload hx hb dL_law_245 (lv_at hl 1 rfl) ?_
      refine lv_icmp_eq (tgt := 252) hx hb dL_law_247 (by decide) (fun _ => ?_) (fun c1 => absurd ht c1)
      refine lv_iload hx hb dL_law_252 (lv_at hl 1 rfl) ?_
      refine lv_if_ne (tgt := 269) hx hb dL_law_254 (by decide) (fun _ => ?_) (fun c1 => absurd c1 (by decide))
      refine lv_goto (tgt := 1764) hx hb dL_law_269 (by decide) ?_
      exact kk _ _ _ _ _ ls hrel hP hD hS (lv_sub hl [2, 3, 4, 5, 6] rfl)
    · rcases List.mem_cons.mp hq with rfl | hq
      · refine lv_aload_n hx hb dL_law_216 rfl (lv_at hl 1 rfl) ?_
        refine lv_aload_n hx hb dL_law_217 rfl (lv_at hl 0 rfl) ?_
        refine lv_iload hx hb dL_law_218 (lv_at hl 4 rfl) ?_
        refine lv_iconst (v := 1) hx hb dL_law_220 (by decide) ?_
        refine lv_iadd hx hb dL_law_221 ?_
        refine va_sld hx hb hX hbl hbA hS hi1 dL_law_222 ?_
        refine lv_topn hp1 ?_
        refine lv_aload_n hx hb dL_law_223 rfl (lv_at hl 3 rfl) ?_
        refine cc_iSHF (As := [.ref (ad 0), .int p1, .ref o]) (rest := []) (wr := wM cI cZ am v) ⟨hx, hb, hml, hown, hts⟩ (kx2_L_pass l hl0 D cI cZ cJ ad o f u p1 hc) (vx_cwSW 3 hts (gwSH mw_463 mw_464 mw_47 mw_465) rfl rfl rfl (by decide +kernel) ⟨(Nat.le_of_ble_eq_true rfl), (Nat.le_of_ble_eq_true rfl)⟩) hK hP hD hS hA hZ [24, 25, 26, 27, 28, 29, 30, 31, 32, 33, 34, 35, 36, 37, 38, 39, 40, 41, 42, 43, 44, 45, 46, 47, 48, 49, 50, 51, 52, 53, 54, 55, 56, 57, 58, 59] [0, 1, 2, 3, 4, 5, 6, 7, 8, 9, 10, 11, 12, 13, 14, 15, 16, 17, 18, 19, 20, 21, 22, 23] rfl rfl (by decide) rfl (by decide) (by decide) rfl hl.1 rfl (Nat.le_of_ble_eq_true rfl) dL_law_224 ⟨by show 60 + j + 1 ≤ 1087; omega, by show 5141 + 6 * j + 6 ≤ 13351; omega⟩ (fun H locs hP hD hS => ?_)
        replace hP : va_P D vwCl (wM cI cZ am v ++ wL cI cZ cJ ad o f u') H := hP
        replace hD : va_D (fun q : Nat => s.heap.size ≤ q) (wM cI cZ am v ++ wL cI cZ cJ ad o f u') := hD
        refine W.widen (k := 60 + (j + 1)) (n := 5141 + 6 * (j + 1)) (by omega) (by omega) ?_
        refine lv_istore (lv' := [(5, .int 2), (0, .ref b), (1, .ref (ad 0)), (2, .ref (am 0)), (3, .ref o), (4, .int i)]) hx hb dL_law_227 hl (by decide) rfl (fun ls hl => ?_)
        refine lv_aload_n hx hb dL_law_229 rfl (lv_at hl 3 rfl) ?_
        refine lv_aload_n hx hb dL_law_230 rfl (lv_at hl 1 rfl) ?_
        refine lv_iload hx hb dL_law_231 (lv_at hl 5 rfl) ?_
        refine lv_iconst (v := 1) hx hb dL_law_233 (by decide) ?_
        refine lv_iadd hx hb dL_law_234 ?_
        refine va_sld hx hb hX hbl hbA hS hi1 dL_law_235 ?_
        refine lv_topn hp1 ?_
        refine cc_iVF (As := [.int p1]) (rest := []) (wr := wL cI cZ cJ ad o f u') ⟨hx, hb, hml, hown, hts⟩ (k_X10_pass l D cI cZ am v p1 hm) (cwV 1 hts (gwV mw_980 mw_981 mw_982 mw_59 mw_983) rfl rfl rfl (by decide +kernel) ⟨(Nat.le_of_ble_eq_true rfl), (Nat.le_of_ble_eq_true rfl)⟩) (hK.sub [0, 1] rfl) hP hD hS hA hZ [0, 1, 2, 3, 4, 5, 6, 7, 8, 9, 10, 11, 12, 13, 14, 15, 16, 17, 18, 19, 20, 21, 22, 23] [24, 25, 26, 27, 28, 29, 30, 31, 32, 33, 34, 35, 36, 37, 38, 39, 40, 41, 42, 43, 44, 45, 46, 47, 48, 49, 50, 51, 52, 53, 54, 55, 56, 57, 58, 59] rfl rfl (by decide) rfl (by decide) (by decide) (ci := 10) (q0 := 0) rfl rfl rfl hl.1 rfl (Nat.le_of_ble_eq_true rfl) dL_law_236 ⟨by show 60 + (j + 1) ≤ 1087; omega, by show 5141 + 6 * (j + 1) ≤ 13351; omega⟩ (fun H locs hP hD hS => ?_)
        replace hP : va_P D vwCl (wM cI cZ am v' ++ wL cI cZ cJ ad o f u') H := hP.sub [36, 37, 38, 39, 40, 41, 42, 43, 44, 45, 46, 47, 48, 49, 50, 51, 52, 53, 54, 55, 56, 57, 58, 59, 0, 1, 2, 3, 4, 5, 6, 7, 8, 9, 10, 11, 12, 13, 14, 15, 16, 17, 18, 19, 20, 21, 22, 23, 24, 25, 26, 27, 28, 29, 30, 31, 32, 33, 34, 35] rfl
        replace hD : va_D (fun q : Nat => s.heap.size ≤ q) (wM cI cZ am v' ++ wL cI cZ cJ ad o f u') := hD.sub [36, 37, 38, 39, 40, 41, 42, 43, 44, 45, 46, 47, 48, 49, 50, 51, 52, 53, 54, 55, 56, 57, 58, 59, 0, 1, 2, 3, 4, 5, 6, 7, 8, 9, 10, 11, 12, 13, 14, 15, 16, 17, 18, 19, 20, 21, 22, 23, 24, 25, 26, 27, 28, 29, 30, 31, 32, 33, 34, 35] (by decide) rfl
        refine lv_istore (lv' := [(6, .int b9), (5, .int 2), (0, .ref b), (1, .ref (ad 0)), (2, .ref (am 0)), (3, .ref o), (4, .int i)]) hx hb dL_law_239 hl (by decide) rfl (fun ls hl => ?_)
        refine lv_aload_n hx hb dL_law_241 rfl (lv_at hl 4 rfl) ?_
        refine cc_iVF (As := []) (rest := []) (wr := wL cI cZ cJ ad o f u') ⟨hx, hb, hml, hown, hts⟩ (k_X10_thrown l D cI cZ am v' rfl) (cwV 0 hts (gwV mw_968 mw_969 mw_970 mw_59 mw_971) rfl rfl rfl (by decide +kernel) ⟨(Nat.le_of_ble_eq_true rfl), (Nat.le_of_ble_eq_true rfl)⟩) (hK.sub [0, 1] rfl) hP hD hS hA hZ [0, 1, 2, 3, 4, 5, 6, 7, 8, 9, 10, 11, 12, 13, 14, 15, 16, 17, 18, 19, 20, 21, 22, 23] [24, 25, 26, 27, 28, 29, 30, 31, 32, 33, 34, 35, 36, 37, 38, 39, 40, 41, 42, 43, 44, 45, 46, 47, 48, 49, 50, 51, 52, 53, 54, 55, 56, 57, 58, 59] rfl rfl (by decide) rfl (by decide) (by decide) (ci := 10) (q0 := 0) rfl rfl rfl hl.1 rfl (Nat.le_of_ble_eq_true rfl) dL_law_242 ⟨by show 60 + (j + 1) ≤ 1087; omega, by show 5141 + 6 * (j + 1) ≤ 13351; omega⟩ (fun H locs hP hD hS => ?_)
        replace hP : va_P D vwCl (wM cI cZ am v' ++ wL cI cZ cJ ad o f u') H := hP.sub [36, 37, 38, 39, 40, 41, 42, 43, 44, 45, 46, 47, 48, 49, 50, 51, 52, 53, 54, 55, 56, 57, 58, 59, 0, 1, 2, 3, 4, 5, 6, 7, 8, 9, 10, 11, 12, 13, 14, 15, 16, 17, 18, 19, 20, 21, 22, 23, 24, 25, 26, 27, 28, 29, 30, 31, 32, 33, 34, 35] rfl
        replace hD : va_D (fun q : Nat => s.heap.size ≤ q) (wM cI cZ am v' ++ wL cI cZ cJ ad o f u') := hD.sub [36, 37, 38, 39, 40, 41, 42, 43, 44, 45, 46, 47, 48, 49, 50, 51, 52, 53, 54, 55, 56, 57, 58, 59, 0, 1, 2, 3, 4, 5, 6, 7, 8, 9, 10, 11, 12, 13, 14, 15, 16, 17, 18, 19, 20, 21, 22, 23, 24, 25, 26, 27, 28, 29, 30, 31, 32, 33, 34, 35] (by decide) rfl
        refine lv_iload hx hb dL_law_245 (lv_at hl 1 rfl) ?_
        refine lv_icmp_eq (tgt := 252) hx hb dL_law_247 (by decide) (fun _ => ?_) (fun c1 => absurd ht c1)
        refine lv_iload hx hb dL_law_252 (lv_at hl 1 rfl) ?_
        refine lv_if_ne (tgt := 269) hx hb dL_law_254 (by decide) (fun _ => ?_) (fun c1 => absurd c1 (by decide))
        refine lv_goto (tgt := 1764) hx hb dL_law_269 (by decide) ?_
        exact kk _ _ _ _ _ ls hrel hP hD hS (lv_sub hl [2, 3, 4, 5, 6] rfl)
      · exact absurd hq List.not_mem_nil

set_option maxHeartbeats 4000000 in
set_option maxRecDepth 100000 in
theorem lc_holds {p : Program} {l : Launch} {e : Env} {s : State} {m : MethodId} {below : List Frame} {meth : Method} {c : Code} {b L : Nat} {xs : Nat → Int32} (hl0 : l.stackTraces = false) (C0 : lw_At p s m meth c b L xs) (hZ : cst (fun q : Nat => s.heap.size ≤ q) s) {D : va_G} {cI cZ cJ : ClassId} (hK : va_K D vwCl [(cI, .int), (cZ, .boolean), (cJ, .long)] s) {Rel : GS → MS → Prop} {am ad : Nat → Nat} {o : Nat} {f : Nat → Int64} {u : GS} {v : MS} {i : Int32} {j : Nat} (hj : j ≤ 511) (hi : lin i L) {p1 : Int32} (hp1 : xs (i + 1).toNatClampNeg = p1) {p2 : Int32} (hp2 : xs (i + 2).toNatClampNeg = p2) (hsim : SI Rel (g_X9_holds u p1 p2) (g_X10_holds_ v p1 p2) [("java/lang/IndexOutOfBoundsException", 1)]) {H : Heap} {locs : List Loc} {ls : Array Slot} (hP : va_P D vwCl (wM cI cZ am v ++ wL cI cZ cJ ad o f u) H) (hD : va_D (fun q : Nat => s.heap.size ≤ q) (wM cI cZ am v ++ wL cI cZ cJ ad o f u)) (hS : va_S (fun q : Nat => s.heap.size ≤ q) s.heap H locs) (hl : lv_has ls 7 [(0, .ref b), (1, .ref (ad 0)), (2, .ref (am 0)), (3, .ref o), (4, .int i)]) (kk : ∀ (u' : GS) (v' : MS) (f' : Nat → Int64) (H : Heap) (locs : List Loc) (ls : Array Slot), Rel u' v' → va_P D vwCl (wM cI cZ am v' ++ wL cI cZ cJ ad o f' u') H → va_D (fun q : Nat => s.heap.size ≤ q) (wM cI cZ am v' ++ wL cI cZ cJ ad o f' u') → va_S (fun q : Nat => s.heap.size ≤ q) s.heap H locs → lv_has ls 7 [(0, .ref b), (1, .ref (ad 0)), (2, .ref (am 0)), (3, .ref o), (4, .int i)] → W p l e room_1 s m #[Value.ref b] below meth c H locs (60 + (j + 1)) (5141 + 6 * (j + 1)) (lw_Z below #[Value.ref b] s) (F0 m 1764 ls [])) : W p l e room_1 s m #[Value.ref b] below meth c H locs (60 + j) (5141 + 6 * j) (lw_Z below #[Value.ref b] s) (F0 m 272 ls []) := by
  obtain ⟨hx, hb, hr, hml, hown, hts0, hX, hbl, hlocks, hgv⟩ := id C0
  have hts : ∀ w ∈ Wall, w.before #[Value.ref b] s = true := fun w h => hts0 w (wall_tbl w h)
  have hA : ∀ q : Nat, s.heap.size ≤ q → (fun q : Nat => s.heap.size ≤ q) q := fun _ h => h
  have hbA : ¬ (fun q : Nat => s.heap.size ≤ q) b := Nat.not_le.mpr hbl
  obtain ⟨-, hi1, hi2, hi3, hi4, hi5⟩ := hi
  rcases hsim with ⟨r, u', v', hc, hm, ht, hrel⟩ | ⟨q, u', b9, v', hq, hc, hm, ht, hrel⟩
  · refine lv_aload_n hx hb dL_law_272 rfl (lv_at hl 1 rfl) ?_
    refine lv_aload_n hx hb dL_law_273 rfl (lv_at hl 0 rfl) ?_
    refine lv_iload hx hb dL_law_274 (lv_at hl 4 rfl) ?_
    refine lv_iconst (v := 1) hx hb dL_law_276 (by decide) ?_
    refine lv_iadd hx hb dL_law_277 ?_
    refine va_sld hx hb hX hbl hbA hS hi1 dL_law_278 ?_
    refine lv_topn hp1 ?_
    refine lv_aload_n hx hb dL_law_279 rfl (lv_at hl 0 rfl) ?_
    refine lv_iload hx hb dL_law_280 (lv_at hl 4 rfl) ?_
    refine lv_iconst (v := 2) hx hb dL_law_282 (by decide) ?_
    refine lv_iadd hx hb dL_law_283 ?_
    refine va_sld hx hb hX hbl hbA hS hi2 dL_law_284 ?_
    refine lv_topn hp2 ?_
    refine lv_aload_n hx hb dL_law_285 rfl (lv_at hl 3 rfl) ?_
    refine cc_iSHF (As := [.ref (ad 0), .int p1, .int p2, .ref o]) (rest := []) (wr := wM cI cZ am v) ⟨hx, hb, hml, hown, hts⟩ (k_L_holds l D cI cZ cJ ad o f u p1 p2 hc) (vx_cwSW 4 hts (gwSH mw_584 mw_585 mw_47 mw_586) rfl rfl rfl (by decide +kernel) ⟨(Nat.le_of_ble_eq_true rfl), (Nat.le_of_ble_eq_true rfl)⟩) hK hP hD hS hA hZ [24, 25, 26, 27, 28, 29, 30, 31, 32, 33, 34, 35, 36, 37, 38, 39, 40, 41, 42, 43, 44, 45, 46, 47, 48, 49, 50, 51, 52, 53, 54, 55, 56, 57, 58, 59] [0, 1, 2, 3, 4, 5, 6, 7, 8, 9, 10, 11, 12, 13, 14, 15, 16, 17, 18, 19, 20, 21, 22, 23] rfl rfl (by decide) rfl (by decide) (by decide) rfl hl.1 rfl (Nat.le_of_ble_eq_true rfl) dL_law_286 ⟨by show 60 + j ≤ 1087; omega, by show 5141 + 6 * j ≤ 13351; omega⟩ (fun H locs hP hD hS => ?_)
    replace hP : va_P D vwCl (wM cI cZ am v ++ wL cI cZ cJ ad o (vp_updL f (0 : Int32).toNatClampNeg r.toInt64) u') H := hP
    replace hD : va_D (fun q : Nat => s.heap.size ≤ q) (wM cI cZ am v ++ wL cI cZ cJ ad o (vp_updL f (0 : Int32).toNatClampNeg r.toInt64) u') := hD
    refine W.widen (k := 60 + (j + 1)) (n := 5141 + 6 * (j + 1)) (by omega) (by omega) ?_
    refine lv_istore (lv' := [(5, .int 0), (0, .ref b), (1, .ref (ad 0)), (2, .ref (am 0)), (3, .ref o), (4, .int i)]) hx hb dL_law_289 hl (by decide) rfl (fun ls hl => ?_)
    refine lv_aload_n hx hb dL_law_291 rfl (lv_at hl 3 rfl) ?_
    refine lv_aload_n hx hb dL_law_292 rfl (lv_at hl 1 rfl) ?_
    refine lv_iload hx hb dL_law_293 (lv_at hl 5 rfl) ?_
    refine lv_iconst (v := 1) hx hb dL_law_295 (by decide) ?_
    refine lv_iadd hx hb dL_law_296 ?_
    refine va_sld hx hb hX hbl hbA hS hi1 dL_law_297 ?_
    refine lv_topn hp1 ?_
    refine lv_aload_n hx hb dL_law_298 rfl (lv_at hl 1 rfl) ?_
    refine lv_iload hx hb dL_law_299 (lv_at hl 5 rfl) ?_
    refine lv_iconst (v := 2) hx hb dL_law_301 (by decide) ?_
    refine lv_iadd hx hb dL_law_302 ?_
    refine va_sld hx hb hX hbl hbA hS hi2 dL_law_303 ?_
    refine lv_topn hp2 ?_
    refine cc_iVF (As := [.int p1, .int p2]) (rest := []) (wr := wL cI cZ cJ ad o (vp_updL f (0 : Int32).toNatClampNeg r.toInt64) u') ⟨hx, hb, hml, hown, hts⟩ (k_X10_holds_ l D cI cZ am v p1 p2 hm) (cwV 2 hts (gwV mw_1032 mw_1033 mw_1034 mw_59 mw_1035) rfl rfl rfl (by decide +kernel) ⟨(Nat.le_of_ble_eq_true rfl), (Nat.le_of_ble_eq_true rfl)⟩) (hK.sub [0, 1] rfl) hP hD hS hA hZ [0, 1, 2, 3, 4, 5, 6, 7, 8, 9, 10, 11, 12, 13, 14, 15, 16, 17, 18, 19, 20, 21, 22, 23] [24, 25, 26, 27, 28, 29, 30, 31, 32, 33, 34, 35, 36, 37, 38, 39, 40, 41, 42, 43, 44, 45, 46, 47, 48, 49, 50, 51, 52, 53, 54, 55, 56, 57, 58, 59] rfl rfl (by decide) rfl (by decide) (by decide) (ci := 10) (q0 := 0) rfl rfl rfl hl.1 rfl (Nat.le_of_ble_eq_true rfl) dL_law_304 ⟨by show 60 + (j + 1) ≤ 1087; omega, by show 5141 + 6 * (j + 1) ≤ 13351; omega⟩ (fun H locs hP hD hS => ?_)
    replace hP : va_P D vwCl (wM cI cZ am v' ++ wL cI cZ cJ ad o (vp_updL f (0 : Int32).toNatClampNeg r.toInt64) u') H := hP.sub [36, 37, 38, 39, 40, 41, 42, 43, 44, 45, 46, 47, 48, 49, 50, 51, 52, 53, 54, 55, 56, 57, 58, 59, 0, 1, 2, 3, 4, 5, 6, 7, 8, 9, 10, 11, 12, 13, 14, 15, 16, 17, 18, 19, 20, 21, 22, 23, 24, 25, 26, 27, 28, 29, 30, 31, 32, 33, 34, 35] rfl
    replace hD : va_D (fun q : Nat => s.heap.size ≤ q) (wM cI cZ am v' ++ wL cI cZ cJ ad o (vp_updL f (0 : Int32).toNatClampNeg r.toInt64) u') := hD.sub [36, 37, 38, 39, 40, 41, 42, 43, 44, 45, 46, 47, 48, 49, 50, 51, 52, 53, 54, 55, 56, 57, 58, 59, 0, 1, 2, 3, 4, 5, 6, 7, 8, 9, 10, 11, 12, 13, 14, 15, 16, 17, 18, 19, 20, 21, 22, 23, 24, 25, 26, 27, 28, 29, 30, 31, 32, 33, 34, 35] (by decide) rfl
    refine lv_istore (lv' := [(6, .int r), (5, .int 0), (0, .ref b), (1, .ref (ad 0)), (2, .ref (am 0)), (3, .ref o), (4, .int i)]) hx hb dL_law_307 hl (by decide) rfl (fun ls hl => ?_)
    refine lv_aload_n hx hb dL_law_309 rfl (lv_at hl 4 rfl) ?_
    refine cc_iVF (As := []) (rest := []) (wr := wL cI cZ cJ ad o (vp_updL f (0 : Int32).toNatClampNeg r.toInt64) u') ⟨hx, hb, hml, hown, hts⟩ (k_X10_thrown l D cI cZ am v' rfl) (cwV 0 hts (gwV mw_968 mw_969 mw_970 mw_59 mw_971) rfl rfl rfl (by decide +kernel) ⟨(Nat.le_of_ble_eq_true rfl), (Nat.le_of_ble_eq_true rfl)⟩) (hK.sub [0, 1] rfl) hP hD hS hA hZ [0, 1, 2, 3, 4, 5, 6, 7, 8, 9, 10, 11, 12, 13, 14, 15, 16, 17, 18, 19, 20, 21, 22, 23] [24, 25, 26, 27, 28, 29, 30, 31, 32, 33, 34, 35, 36, 37, 38, 39, 40, 41, 42, 43, 44, 45, 46, 47, 48, 49, 50, 51, 52, 53, 54, 55, 56, 57, 58, 59] rfl rfl (by decide) rfl (by decide) (by decide) (ci := 10) (q0 := 0) rfl rfl rfl hl.1 rfl (Nat.le_of_ble_eq_true rfl) dL_law_310 ⟨by show 60 + (j + 1) ≤ 1087; omega, by show 5141 + 6 * (j + 1) ≤ 13351; omega⟩ (fun H locs hP hD hS => ?_)
    replace hP : va_P D vwCl (wM cI cZ am v' ++ wL cI cZ cJ ad o (vp_updL f (0 : Int32).toNatClampNeg r.toInt64) u') H := hP.sub [36, 37, 38, 39, 40, 41, 42, 43, 44, 45, 46, 47, 48, 49, 50, 51, 52, 53, 54, 55, 56, 57, 58, 59, 0, 1, 2, 3, 4, 5, 6, 7, 8, 9, 10, 11, 12, 13, 14, 15, 16, 17, 18, 19, 20, 21, 22, 23, 24, 25, 26, 27, 28, 29, 30, 31, 32, 33, 34, 35] rfl
    replace hD : va_D (fun q : Nat => s.heap.size ≤ q) (wM cI cZ am v' ++ wL cI cZ cJ ad o (vp_updL f (0 : Int32).toNatClampNeg r.toInt64) u') := hD.sub [36, 37, 38, 39, 40, 41, 42, 43, 44, 45, 46, 47, 48, 49, 50, 51, 52, 53, 54, 55, 56, 57, 58, 59, 0, 1, 2, 3, 4, 5, 6, 7, 8, 9, 10, 11, 12, 13, 14, 15, 16, 17, 18, 19, 20, 21, 22, 23, 24, 25, 26, 27, 28, 29, 30, 31, 32, 33, 34, 35] (by decide) rfl
    refine lv_iload hx hb dL_law_313 (lv_at hl 1 rfl) ?_
    refine lv_icmp_eq (tgt := 320) hx hb dL_law_315 (by decide) (fun _ => ?_) (fun c1 => absurd ht c1)
    refine lv_iload hx hb dL_law_320 (lv_at hl 1 rfl) ?_
    refine lv_if_ne (tgt := 337) hx hb dL_law_322 (by decide) (fun c1 => absurd rfl c1) (fun _ => ?_)
    refine lv_aload_n hx hb dL_law_325 rfl (lv_at hl 5 rfl) ?_
    refine lv_iconst (v := 0) hx hb dL_law_326 (by decide) ?_
    refine va_lald (D := D) hx hb hK hP 24 2 rfl rfl (by unfold vp_in; decide) dL_law_327 ?_
    refine lv_iload hx hb dL_law_328 (lv_at hl 0 rfl) ?_
    refine lv_i2l (v := r.toInt64) hx hb dL_law_330 rfl ?_
    refine W.lcmp hx hb dL_law_331 ?_
    refine lv_if_eq (tgt := 337) hx hb dL_law_332 (by decide) (fun _ => ?_) (fun c2 => absurd (by simp [lg_cmp, vp_updL]) c2)
    refine lv_goto (tgt := 1764) hx hb dL_law_337 (by decide) ?_
    exact kk _ _ _ _ _ ls hrel hP hD hS (lv_sub hl [2, 3, 4, 5, 6] rfl)
  · rcases List.mem_cons.mp hq with rfl | hq
    · refine lv_aload_n hx hb dL_law_272 rfl (lv_at hl 1 rfl) ?_
      refine lv_aload_n hx hb dL_law_273 rfl (lv_at hl 0 rfl) ?_
      refine lv_iload hx hb dL_law_274 (lv_at hl 4 rfl) ?_
      refine lv_iconst (v := 1) hx hb dL_law_276 (by decide) ?_
      refine lv_iadd hx hb dL_law_277 ?_
      refine va_sld hx hb hX hbl hbA hS hi1 dL_law_278 ?_
      refine lv_topn hp1 ?_
      refine lv_aload_n hx hb dL_law_279 rfl (lv_at hl 0 rfl) ?_
      refine lv_iload hx hb dL_law_280 (lv_at hl 4 rfl) ?_
      refine lv_iconst (v := 2) hx hb dL_law_282 (by decide) ?_
      refine lv_iadd hx hb dL_law_283 ?_
      refine va_sld hx hb hX hbl hbA hS hi2 dL_law_284 ?_
      refine lv_topn hp2 ?_
      refine lv_aload_n hx hb dL_law_285 rfl (lv_at hl 3 rfl) ?_
      refine cc_iSHF (As := [.ref (ad 0), .int p1, .int p2, .ref o]) (rest := []) (wr := wM cI cZ am v) ⟨hx, hb, hml, hown, hts⟩ (kx1_L_holds l hl0 D cI cZ cJ ad o f u p1 p2 hc) (vx_cwSW 4 hts (gwSH mw_584 mw_585 mw_47 mw_586) rfl rfl rfl (by decide +kernel) ⟨(Nat.le_of_ble_eq_true rfl), (Nat.le_of_ble_eq_true rfl)⟩) hK hP hD hS hA hZ [24, 25, 26, 27, 28, 29, 30, 31, 32, 33, 34, 35, 36, 37, 38, 39, 40, 41, 42, 43, 44, 45, 46, 47, 48, 49, 50, 51, 52, 53, 54, 55, 56, 57, 58, 59] [0, 1, 2, 3, 4, 5, 6, 7, 8, 9, 10, 11, 12, 13, 14, 15, 16, 17, 18, 19, 20, 21, 22, 23] rfl rfl (by decide) rfl (by decide) (by decide) rfl hl.1 rfl (Nat.le_of_ble_eq_true rfl) dL_law_286 ⟨by show 60 + j + 1 ≤ 1087; omega, by show 5141 + 6 * j + 6 ≤ 13351; omega⟩ (fun H locs hP hD hS => ?_)
      replace hP : va_P D vwCl (wM cI cZ am v ++ wL cI cZ cJ ad o f u') H := hP
      replace hD : va_D (fun q : Nat => s.heap.size ≤ q) (wM cI cZ am v ++ wL cI cZ cJ ad o f u') := hD
      refine W.widen (k := 60 + (j + 1)) (n := 5141 + 6 * (j + 1)) (by omega) (by omega) ?_
      refine lv_istore (lv' := [(5, .int 1), (0, .ref b), (1, .ref (ad 0)), (2, .ref (am 0)), (3, .ref o), (4, .int i)]) hx hb dL_law_289 hl (by decide) rfl (fun ls hl => ?_)
      refine lv_aload_n hx hb dL_law_291 rfl (lv_at hl 3 rfl) ?_
      refine lv_aload_n hx hb dL_law_292 rfl (lv_at hl 1 rfl) ?_
      refine lv_iload hx hb dL_law_293 (lv_at hl 5 rfl) ?_
      refine lv_iconst (v := 1) hx hb dL_law_295 (by decide) ?_
      refine lv_iadd hx hb dL_law_296 ?_
      refine va_sld hx hb hX hbl hbA hS hi1 dL_law_297 ?_
      refine lv_topn hp1 ?_
      refine lv_aload_n hx hb dL_law_298 rfl (lv_at hl 1 rfl) ?_
      refine lv_iload hx hb dL_law_299 (lv_at hl 5 rfl) ?_
      refine lv_iconst (v := 2) hx hb dL_law_301 (by decide) ?_
      refine lv_iadd hx hb dL_law_302 ?_
      refine va_sld hx hb hX hbl hbA hS hi2 dL_law_303 ?_
      refine lv_topn hp2 ?_
      refine cc_iVF (As := [.int p1, .int p2]) (rest := []) (wr := wL cI cZ cJ ad o f u') ⟨hx, hb, hml, hown, hts⟩ (k_X10_holds_ l D cI cZ am v p1 p2 hm) (cwV 2 hts (gwV mw_1032 mw_1033 mw_1034 mw_59 mw_1035) rfl rfl rfl (by decide +kernel) ⟨(Nat.le_of_ble_eq_true rfl), (Nat.le_of_ble_eq_true rfl)⟩) (hK.sub [0, 1] rfl) hP hD hS hA hZ [0, 1, 2, 3, 4, 5, 6, 7, 8, 9, 10, 11, 12, 13, 14, 15, 16, 17, 18, 19, 20, 21, 22, 23] [24, 25, 26, 27, 28, 29, 30, 31, 32, 33, 34, 35, 36, 37, 38, 39, 40, 41, 42, 43, 44, 45, 46, 47, 48, 49, 50, 51, 52, 53, 54, 55, 56, 57, 58, 59] rfl rfl (by decide) rfl (by decide) (by decide) (ci := 10) (q0 := 0) rfl rfl rfl hl.1 rfl (Nat.le_of_ble_eq_true rfl) dL_law_304 ⟨by show 60 + (j + 1) ≤ 1087; omega, by show 5141 + 6 * (j + 1) ≤ 13351; omega⟩ (fun H locs hP hD hS => ?_)
      replace hP : va_P D vwCl (wM cI cZ am v' ++ wL cI cZ cJ ad o f u') H := hP.sub [36, 37, 38, 39, 40, 41, 42, 43, 44, 45, 46, 47, 48, 49, 50, 51, 52, 53, 54, 55, 56, 57, 58, 59, 0, 1, 2, 3, 4, 5, 6, 7, 8, 9, 10, 11, 12, 13, 14, 15, 16, 17, 18, 19, 20, 21, 22, 23, 24, 25, 26, 27, 28, 29, 30, 31, 32, 33, 34, 35] rfl
      replace hD : va_D (fun q : Nat => s.heap.size ≤ q) (wM cI cZ am v' ++ wL cI cZ cJ ad o f u') := hD.sub [36, 37, 38, 39, 40, 41, 42, 43, 44, 45, 46, 47, 48, 49, 50, 51, 52, 53, 54, 55, 56, 57, 58, 59, 0, 1, 2, 3, 4, 5, 6, 7, 8, 9, 10, 11, 12, 13, 14, 15, 16, 17, 18, 19, 20, 21, 22, 23, 24, 25, 26, 27, 28, 29, 30, 31, 32, 33, 34, 35] (by decide) rfl
      refine lv_istore (lv' := [(6, .int b9), (5, .int 1), (0, .ref b), (1, .ref (ad 0)), (2, .ref (am 0)), (3, .ref o), (4, .int i)]) hx hb dL_law_307 hl (by decide) rfl (fun ls hl => ?_)
      refine lv_aload_n hx hb dL_law_309 rfl (lv_at hl 4 rfl) ?_
      refine cc_iVF (As := []) (rest := []) (wr := wL cI cZ cJ ad o f u') ⟨hx, hb, hml, hown, hts⟩ (k_X10_thrown l D cI cZ am v' rfl) (cwV 0 hts (gwV mw_968 mw_969 mw_970 mw_59 mw_971) rfl rfl rfl (by decide +kernel) ⟨(Nat.le_of_ble_eq_true rfl), (Nat.le_of_ble_eq_true rfl)⟩) (hK.sub [0, 1] rfl) hP hD hS hA hZ [0, 1, 2, 3, 4, 5, 6, 7, 8, 9, 10, 11, 12, 13, 14, 15, 16, 17, 18, 19, 20, 21, 22, 23] [24, 25, 26, 27, 28, 29, 30, 31, 32, 33, 34, 35, 36, 37, 38, 39, 40, 41, 42, 43, 44, 45, 46, 47, 48, 49, 50, 51, 52, 53, 54, 55, 56, 57, 58, 59] rfl rfl (by decide) rfl (by decide) (by decide) (ci := 10) (q0 := 0) rfl rfl rfl hl.1 rfl (Nat.le_of_ble_eq_true rfl) dL_law_310 ⟨by show 60 + (j + 1) ≤ 1087; omega, by show 5141 + 6 * (j + 1) ≤ 13351; omega⟩ (fun H locs hP hD hS => ?_)
      replace hP : va_P D vwCl (wM cI cZ am v' ++ wL cI cZ cJ ad o f u') H := hP.sub [36, 37, 38, 39, 40, 41, 42, 43, 44, 45, 46, 47, 48, 49, 50, 51, 52, 53, 54, 55, 56, 57, 58, 59, 0, 1, 2, 3, 4, 5, 6, 7, 8, 9, 10, 11, 12, 13, 14, 15, 16, 17, 18, 19, 20, 21, 22, 23, 24, 25, 26, 27, 28, 29, 30, 31, 32, 33, 34, 35] rfl
      replace hD : va_D (fun q : Nat => s.heap.size ≤ q) (wM cI cZ am v' ++ wL cI cZ cJ ad o f u') := hD.sub [36, 37, 38, 39, 40, 41, 42, 43, 44, 45, 46, 47, 48, 49, 50, 51, 52, 53, 54, 55, 56, 57, 58, 59, 0, 1, 2, 3, 4, 5, 6, 7, 8, 9, 10, 11, 12, 13, 14, 15, 16, 17, 18, 19, 20, 21, 22, 23, 24, 25, 26, 27, 28, 29, 30, 31, 32, 33, 34, 35] (by decide) rfl
      refine lv_iload hx hb dL_law_313 (lv_at hl 1 rfl) ?_
      refine lv_icmp_eq (tgt := 320) hx hb dL_law_315 (by decide) (fun _ => ?_) (fun c1 => absurd ht c1)
      refine lv_iload hx hb dL_law_320 (lv_at hl 1 rfl) ?_
      refine lv_if_ne (tgt := 337) hx hb dL_law_322 (by decide) (fun _ => ?_) (fun c1 => absurd c1 (by decide))
      refine lv_goto (tgt := 1764) hx hb dL_law_337 (by decide) ?_
      exact kk _ _ _ _ _ ls hrel hP hD hS (lv_sub hl [2, 3, 4, 5, 6] rfl)
    · exact absurd hq List.not_mem_nil

set_option maxHeartbeats 4000000 in
set_option maxRecDepth 100000 in
theorem lc_vehicles {p : Program} {l : Launch} {e : Env} {s : State} {m : MethodId} {below : List Frame} {meth : Method} {c : Code} {b L : Nat} {xs : Nat → Int32} (hl0 : l.stackTraces = false) (C0 : lw_At p s m meth c b L xs) (hZ : cst (fun q : Nat => s.heap.size ≤ q) s) {D : va_G} {cI cZ cJ : ClassId} (hK : va_K D vwCl [(cI, .int), (cZ, .boolean), (cJ, .long)] s) {Rel : GS → MS → Prop} {am ad : Nat → Nat} {o : Nat} {f : Nat → Int64} {u : GS} {v : MS} {i : Int32} {j : Nat} (hj : j ≤ 511) (hi : lin i L) {p1 : Int32} (hp1 : xs (i + 1).toNatClampNeg = p1) (hsim : SI Rel (g_X9_vehicles u p1) (g_X10_vehicles v p1) [("java/lang/IllegalArgumentException", 1)]) {H : Heap} {locs : List Loc} {ls : Array Slot} (hP : va_P D vwCl (wM cI cZ am v ++ wL cI cZ cJ ad o f u) H) (hD : va_D (fun q : Nat => s.heap.size ≤ q) (wM cI cZ am v ++ wL cI cZ cJ ad o f u)) (hS : va_S (fun q : Nat => s.heap.size ≤ q) s.heap H locs) (hl : lv_has ls 7 [(0, .ref b), (1, .ref (ad 0)), (2, .ref (am 0)), (3, .ref o), (4, .int i)]) (kk : ∀ (u' : GS) (v' : MS) (f' : Nat → Int64) (H : Heap) (locs : List Loc) (ls : Array Slot), Rel u' v' → va_P D vwCl (wM cI cZ am v' ++ wL cI cZ cJ ad o f' u') H → va_D (fun q : Nat => s.heap.size ≤ q) (wM cI cZ am v' ++ wL cI cZ cJ ad o f' u') → va_S (fun q : Nat => s.heap.size ≤ q) s.heap H locs → lv_has ls 7 [(0, .ref b), (1, .ref (ad 0)), (2, .ref (am 0)), (3, .ref o), (4, .int i)] → W p l e room_1 s m #[Value.ref b] below meth c H locs (60 + (j + 1)) (5141 + 6 * (j + 1)) (lw_Z below #[Value.ref b] s) (F0 m 1764 ls [])) : W p l e room_1 s m #[Value.ref b] below meth c H locs (60 + j) (5141 + 6 * j) (lw_Z below #[Value.ref b] s) (F0 m 340 ls []) := by
  obtain ⟨hx, hb, hr, hml, hown, hts0, hX, hbl, hlocks, hgv⟩ := id C0
  have hts : ∀ w ∈ Wall, w.before #[Value.ref b] s = true := fun w h => hts0 w (wall_tbl w h)
  have hA : ∀ q : Nat, s.heap.size ≤ q → (fun q : Nat => s.heap.size ≤ q) q := fun _ h => h
  have hbA : ¬ (fun q : Nat => s.heap.size ≤ q) b := Nat.not_le.mpr hbl
  obtain ⟨-, hi1, hi2, hi3, hi4, hi5⟩ := hi
  rcases hsim with ⟨r, u', v', hc, hm, ht, hrel⟩ | ⟨q, u', b9, v', hq, hc, hm, ht, hrel⟩
  · refine lv_aload_n hx hb dL_law_340 rfl (lv_at hl 1 rfl) ?_
    refine lv_aload_n hx hb dL_law_341 rfl (lv_at hl 0 rfl) ?_
    refine lv_iload hx hb dL_law_342 (lv_at hl 4 rfl) ?_
    refine lv_iconst (v := 1) hx hb dL_law_344 (by decide) ?_
    refine lv_iadd hx hb dL_law_345 ?_
    refine va_sld hx hb hX hbl hbA hS hi1 dL_law_346 ?_
    refine lv_topn hp1 ?_
    refine lv_aload_n hx hb dL_law_347 rfl (lv_at hl 3 rfl) ?_
    refine cc_iSHF (As := [.ref (ad 0), .int p1, .ref o]) (rest := []) (wr := wM cI cZ am v) ⟨hx, hb, hml, hown, hts⟩ (k_L_vehicles l D cI cZ cJ ad o f u p1 hc) (vx_cwSW 3 hts (gwSH mw_618 mw_619 mw_47 mw_620) rfl rfl rfl (by decide +kernel) ⟨(Nat.le_of_ble_eq_true rfl), (Nat.le_of_ble_eq_true rfl)⟩) hK hP hD hS hA hZ [24, 25, 26, 27, 28, 29, 30, 31, 32, 33, 34, 35, 36, 37, 38, 39, 40, 41, 42, 43, 44, 45, 46, 47, 48, 49, 50, 51, 52, 53, 54, 55, 56, 57, 58, 59] [0, 1, 2, 3, 4, 5, 6, 7, 8, 9, 10, 11, 12, 13, 14, 15, 16, 17, 18, 19, 20, 21, 22, 23] rfl rfl (by decide) rfl (by decide) (by decide) rfl hl.1 rfl (Nat.le_of_ble_eq_true rfl) dL_law_348 ⟨by show 60 + j ≤ 1087; omega, by show 5141 + 6 * j ≤ 13351; omega⟩ (fun H locs hP hD hS => ?_)
    replace hP : va_P D vwCl (wM cI cZ am v ++ wL cI cZ cJ ad o (vp_updL f (0 : Int32).toNatClampNeg r.toInt64) u') H := hP
    replace hD : va_D (fun q : Nat => s.heap.size ≤ q) (wM cI cZ am v ++ wL cI cZ cJ ad o (vp_updL f (0 : Int32).toNatClampNeg r.toInt64) u') := hD
    refine W.widen (k := 60 + (j + 1)) (n := 5141 + 6 * (j + 1)) (by omega) (by omega) ?_
    refine lv_istore (lv' := [(5, .int 0), (0, .ref b), (1, .ref (ad 0)), (2, .ref (am 0)), (3, .ref o), (4, .int i)]) hx hb dL_law_351 hl (by decide) rfl (fun ls hl => ?_)
    refine lv_aload_n hx hb dL_law_353 rfl (lv_at hl 3 rfl) ?_
    refine lv_aload_n hx hb dL_law_354 rfl (lv_at hl 1 rfl) ?_
    refine lv_iload hx hb dL_law_355 (lv_at hl 5 rfl) ?_
    refine lv_iconst (v := 1) hx hb dL_law_357 (by decide) ?_
    refine lv_iadd hx hb dL_law_358 ?_
    refine va_sld hx hb hX hbl hbA hS hi1 dL_law_359 ?_
    refine lv_topn hp1 ?_
    refine cc_iVF (As := [.int p1]) (rest := []) (wr := wL cI cZ cJ ad o (vp_updL f (0 : Int32).toNatClampNeg r.toInt64) u') ⟨hx, hb, hml, hown, hts⟩ (k_X10_vehicles l D cI cZ am v p1 hm) (cwV 1 hts (gwV mw_1042 mw_1043 mw_1044 mw_59 mw_1045) rfl rfl rfl (by decide +kernel) ⟨(Nat.le_of_ble_eq_true rfl), (Nat.le_of_ble_eq_true rfl)⟩) (hK.sub [0, 1] rfl) hP hD hS hA hZ [0, 1, 2, 3, 4, 5, 6, 7, 8, 9, 10, 11, 12, 13, 14, 15, 16, 17, 18, 19, 20, 21, 22, 23] [24, 25, 26, 27, 28, 29, 30, 31, 32, 33, 34, 35, 36, 37, 38, 39, 40, 41, 42, 43, 44, 45, 46, 47, 48, 49, 50, 51, 52, 53, 54, 55, 56, 57, 58, 59] rfl rfl (by decide) rfl (by decide) (by decide) (ci := 10) (q0 := 0) rfl rfl rfl hl.1 rfl (Nat.le_of_ble_eq_true rfl) dL_law_360 ⟨by show 60 + (j + 1) ≤ 1087; omega, by show 5141 + 6 * (j + 1) ≤ 13351; omega⟩ (fun H locs hP hD hS => ?_)
    replace hP : va_P D vwCl (wM cI cZ am v' ++ wL cI cZ cJ ad o (vp_updL f (0 : Int32).toNatClampNeg r.toInt64) u') H := hP.sub [36, 37, 38, 39, 40, 41, 42, 43, 44, 45, 46, 47, 48, 49, 50, 51, 52, 53, 54, 55, 56, 57, 58, 59, 0, 1, 2, 3, 4, 5, 6, 7, 8, 9, 10, 11, 12, 13, 14, 15, 16, 17, 18, 19, 20, 21, 22, 23, 24, 25, 26, 27, 28, 29, 30, 31, 32, 33, 34, 35] rfl
    replace hD : va_D (fun q : Nat => s.heap.size ≤ q) (wM cI cZ am v' ++ wL cI cZ cJ ad o (vp_updL f (0 : Int32).toNatClampNeg r.toInt64) u') := hD.sub [36, 37, 38, 39, 40, 41, 42, 43, 44, 45, 46, 47, 48, 49, 50, 51, 52, 53, 54, 55, 56, 57, 58, 59, 0, 1, 2, 3, 4, 5, 6, 7, 8, 9, 10, 11, 12, 13, 14, 15, 16, 17, 18, 19, 20, 21, 22, 23, 24, 25, 26, 27, 28, 29, 30, 31, 32, 33, 34, 35] (by decide) rfl
    refine lv_istore (lv' := [(6, .int r), (5, .int 0), (0, .ref b), (1, .ref (ad 0)), (2, .ref (am 0)), (3, .ref o), (4, .int i)]) hx hb dL_law_363 hl (by decide) rfl (fun ls hl => ?_)
    refine lv_aload_n hx hb dL_law_365 rfl (lv_at hl 4 rfl) ?_
    refine cc_iVF (As := []) (rest := []) (wr := wL cI cZ cJ ad o (vp_updL f (0 : Int32).toNatClampNeg r.toInt64) u') ⟨hx, hb, hml, hown, hts⟩ (k_X10_thrown l D cI cZ am v' rfl) (cwV 0 hts (gwV mw_968 mw_969 mw_970 mw_59 mw_971) rfl rfl rfl (by decide +kernel) ⟨(Nat.le_of_ble_eq_true rfl), (Nat.le_of_ble_eq_true rfl)⟩) (hK.sub [0, 1] rfl) hP hD hS hA hZ [0, 1, 2, 3, 4, 5, 6, 7, 8, 9, 10, 11, 12, 13, 14, 15, 16, 17, 18, 19, 20, 21, 22, 23] [24, 25, 26, 27, 28, 29, 30, 31, 32, 33, 34, 35, 36, 37, 38, 39, 40, 41, 42, 43, 44, 45, 46, 47, 48, 49, 50, 51, 52, 53, 54, 55, 56, 57, 58, 59] rfl rfl (by decide) rfl (by decide) (by decide) (ci := 10) (q0 := 0) rfl rfl rfl hl.1 rfl (Nat.le_of_ble_eq_true rfl) dL_law_366 ⟨by show 60 + (j + 1) ≤ 1087; omega, by show 5141 + 6 * (j + 1) ≤ 13351; omega⟩ (fun H locs hP hD hS => ?_)
    replace hP : va_P D vwCl (wM cI cZ am v' ++ wL cI cZ cJ ad o (vp_updL f (0 : Int32).toNatClampNeg r.toInt64) u') H := hP.sub [36, 37, 38, 39, 40, 41, 42, 43, 44, 45, 46, 47, 48, 49, 50, 51, 52, 53, 54, 55, 56, 57, 58, 59, 0, 1, 2, 3, 4, 5, 6, 7, 8, 9, 10, 11, 12, 13, 14, 15, 16, 17, 18, 19, 20, 21, 22, 23, 24, 25, 26, 27, 28, 29, 30, 31, 32, 33, 34, 35] rfl
    replace hD : va_D (fun q : Nat => s.heap.size ≤ q) (wM cI cZ am v' ++ wL cI cZ cJ ad o (vp_updL f (0 : Int32).toNatClampNeg r.toInt64) u') := hD.sub [36, 37, 38, 39, 40, 41, 42, 43, 44, 45, 46, 47, 48, 49, 50, 51, 52, 53, 54, 55, 56, 57, 58, 59, 0, 1, 2, 3, 4, 5, 6, 7, 8, 9, 10, 11, 12, 13, 14, 15, 16, 17, 18, 19, 20, 21, 22, 23, 24, 25, 26, 27, 28, 29, 30, 31, 32, 33, 34, 35] (by decide) rfl
    refine lv_iload hx hb dL_law_369 (lv_at hl 1 rfl) ?_
    refine lv_icmp_eq (tgt := 376) hx hb dL_law_371 (by decide) (fun _ => ?_) (fun c1 => absurd ht c1)
    refine lv_iload hx hb dL_law_376 (lv_at hl 1 rfl) ?_
    refine lv_if_ne (tgt := 393) hx hb dL_law_378 (by decide) (fun c1 => absurd rfl c1) (fun _ => ?_)
    refine lv_aload_n hx hb dL_law_381 rfl (lv_at hl 5 rfl) ?_
    refine lv_iconst (v := 0) hx hb dL_law_382 (by decide) ?_
    refine va_lald (D := D) hx hb hK hP 24 2 rfl rfl (by unfold vp_in; decide) dL_law_383 ?_
    refine lv_iload hx hb dL_law_384 (lv_at hl 0 rfl) ?_
    refine lv_i2l (v := r.toInt64) hx hb dL_law_386 rfl ?_
    refine W.lcmp hx hb dL_law_387 ?_
    refine lv_if_eq (tgt := 393) hx hb dL_law_388 (by decide) (fun _ => ?_) (fun c2 => absurd (by simp [lg_cmp, vp_updL]) c2)
    refine lv_goto (tgt := 1764) hx hb dL_law_393 (by decide) ?_
    exact kk _ _ _ _ _ ls hrel hP hD hS (lv_sub hl [2, 3, 4, 5, 6] rfl)
  · rcases List.mem_cons.mp hq with rfl | hq
    · refine lv_aload_n hx hb dL_law_340 rfl (lv_at hl 1 rfl) ?_
      refine lv_aload_n hx hb dL_law_341 rfl (lv_at hl 0 rfl) ?_
      refine lv_iload hx hb dL_law_342 (lv_at hl 4 rfl) ?_
      refine lv_iconst (v := 1) hx hb dL_law_344 (by decide) ?_
      refine lv_iadd hx hb dL_law_345 ?_
      refine va_sld hx hb hX hbl hbA hS hi1 dL_law_346 ?_
      refine lv_topn hp1 ?_
      refine lv_aload_n hx hb dL_law_347 rfl (lv_at hl 3 rfl) ?_
      refine cc_iSHF (As := [.ref (ad 0), .int p1, .ref o]) (rest := []) (wr := wM cI cZ am v) ⟨hx, hb, hml, hown, hts⟩ (kx1_L_vehicles l hl0 D cI cZ cJ ad o f u p1 hc) (vx_cwSW 3 hts (gwSH mw_618 mw_619 mw_47 mw_620) rfl rfl rfl (by decide +kernel) ⟨(Nat.le_of_ble_eq_true rfl), (Nat.le_of_ble_eq_true rfl)⟩) hK hP hD hS hA hZ [24, 25, 26, 27, 28, 29, 30, 31, 32, 33, 34, 35, 36, 37, 38, 39, 40, 41, 42, 43, 44, 45, 46, 47, 48, 49, 50, 51, 52, 53, 54, 55, 56, 57, 58, 59] [0, 1, 2, 3, 4, 5, 6, 7, 8, 9, 10, 11, 12, 13, 14, 15, 16, 17, 18, 19, 20, 21, 22, 23] rfl rfl (by decide) rfl (by decide) (by decide) rfl hl.1 rfl (Nat.le_of_ble_eq_true rfl) dL_law_348 ⟨by show 60 + j + 1 ≤ 1087; omega, by show 5141 + 6 * j + 6 ≤ 13351; omega⟩ (fun H locs hP hD hS => ?_)
      replace hP : va_P D vwCl (wM cI cZ am v ++ wL cI cZ cJ ad o f u') H := hP
      replace hD : va_D (fun q : Nat => s.heap.size ≤ q) (wM cI cZ am v ++ wL cI cZ cJ ad o f u') := hD
      refine W.widen (k := 60 + (j + 1)) (n := 5141 + 6 * (j + 1)) (by omega) (by omega) ?_
      refine lv_istore (lv' := [(5, .int 1), (0, .ref b), (1, .ref (ad 0)), (2, .ref (am 0)), (3, .ref o), (4, .int i)]) hx hb dL_law_351 hl (by decide) rfl (fun ls hl => ?_)
      refine lv_aload_n hx hb dL_law_353 rfl (lv_at hl 3 rfl) ?_
      refine lv_aload_n hx hb dL_law_354 rfl (lv_at hl 1 rfl) ?_
      refine lv_iload hx hb dL_law_355 (lv_at hl 5 rfl) ?_
      refine lv_iconst (v := 1) hx hb dL_law_357 (by decide) ?_
      refine lv_iadd hx hb dL_law_358 ?_
      refine va_sld hx hb hX hbl hbA hS hi1 dL_law_359 ?_
      refine lv_topn hp1 ?_
      refine cc_iVF (As := [.int p1]) (rest := []) (wr := wL cI cZ cJ ad o f u') ⟨hx, hb, hml, hown, hts⟩ (k_X10_vehicles l D cI cZ am v p1 hm) (cwV 1 hts (gwV mw_1042 mw_1043 mw_1044 mw_59 mw_1045) rfl rfl rfl (by decide +kernel) ⟨(Nat.le_of_ble_eq_true rfl), (Nat.le_of_ble_eq_true rfl)⟩) (hK.sub [0, 1] rfl) hP hD hS hA hZ [0, 1, 2, 3, 4, 5, 6, 7, 8, 9, 10, 11, 12, 13, 14, 15, 16, 17, 18, 19, 20, 21, 22, 23] [24, 25, 26, 27, 28, 29, 30, 31, 32, 33, 34, 35, 36, 37, 38, 39, 40, 41, 42, 43, 44, 45, 46, 47, 48, 49, 50, 51, 52, 53, 54, 55, 56, 57, 58, 59] rfl rfl (by decide) rfl (by decide) (by decide) (ci := 10) (q0 := 0) rfl rfl rfl hl.1 rfl (Nat.le_of_ble_eq_true rfl) dL_law_360 ⟨by show 60 + (j + 1) ≤ 1087; omega, by show 5141 + 6 * (j + 1) ≤ 13351; omega⟩ (fun H locs hP hD hS => ?_)
      replace hP : va_P D vwCl (wM cI cZ am v' ++ wL cI cZ cJ ad o f u') H := hP.sub [36, 37, 38, 39, 40, 41, 42, 43, 44, 45, 46, 47, 48, 49, 50, 51, 52, 53, 54, 55, 56, 57, 58, 59, 0, 1, 2, 3, 4, 5, 6, 7, 8, 9, 10, 11, 12, 13, 14, 15, 16, 17, 18, 19, 20, 21, 22, 23, 24, 25, 26, 27, 28, 29, 30, 31, 32, 33, 34, 35] rfl
      replace hD : va_D (fun q : Nat => s.heap.size ≤ q) (wM cI cZ am v' ++ wL cI cZ cJ ad o f u') := hD.sub [36, 37, 38, 39, 40, 41, 42, 43, 44, 45, 46, 47, 48, 49, 50, 51, 52, 53, 54, 55, 56, 57, 58, 59, 0, 1, 2, 3, 4, 5, 6, 7, 8, 9, 10, 11, 12, 13, 14, 15, 16, 17, 18, 19, 20, 21, 22, 23, 24, 25, 26, 27, 28, 29, 30, 31, 32, 33, 34, 35] (by decide) rfl
      refine lv_istore (lv' := [(6, .int b9), (5, .int 1), (0, .ref b), (1, .ref (ad 0)), (2, .ref (am 0)), (3, .ref o), (4, .int i)]) hx hb dL_law_363 hl (by decide) rfl (fun ls hl => ?_)
      refine lv_aload_n hx hb dL_law_365 rfl (lv_at hl 4 rfl) ?_
      refine cc_iVF (As := []) (rest := []) (wr := wL cI cZ cJ ad o f u') ⟨hx, hb, hml, hown, hts⟩ (k_X10_thrown l D cI cZ am v' rfl) (cwV 0 hts (gwV mw_968 mw_969 mw_970 mw_59 mw_971) rfl rfl rfl (by decide +kernel) ⟨(Nat.le_of_ble_eq_true rfl), (Nat.le_of_ble_eq_true rfl)⟩) (hK.sub [0, 1] rfl) hP hD hS hA hZ [0, 1, 2, 3, 4, 5, 6, 7, 8, 9, 10, 11, 12, 13, 14, 15, 16, 17, 18, 19, 20, 21, 22, 23] [24, 25, 26, 27, 28, 29, 30, 31, 32, 33, 34, 35, 36, 37, 38, 39, 40, 41, 42, 43, 44, 45, 46, 47, 48, 49, 50, 51, 52, 53, 54, 55, 56, 57, 58, 59] rfl rfl (by decide) rfl (by decide) (by decide) (ci := 10) (q0 := 0) rfl rfl rfl hl.1 rfl (Nat.le_of_ble_eq_true rfl) dL_law_366 ⟨by show 60 + (j + 1) ≤ 1087; omega, by show 5141 + 6 * (j + 1) ≤ 13351; omega⟩ (fun H locs hP hD hS => ?_)
      replace hP : va_P D vwCl (wM cI cZ am v' ++ wL cI cZ cJ ad o f u') H := hP.sub [36, 37, 38, 39, 40, 41, 42, 43, 44, 45, 46, 47, 48, 49, 50, 51, 52, 53, 54, 55, 56, 57, 58, 59, 0, 1, 2, 3, 4, 5, 6, 7, 8, 9, 10, 11, 12, 13, 14, 15, 16, 17, 18, 19, 20, 21, 22, 23, 24, 25, 26, 27, 28, 29, 30, 31, 32, 33, 34, 35] rfl
      replace hD : va_D (fun q : Nat => s.heap.size ≤ q) (wM cI cZ am v' ++ wL cI cZ cJ ad o f u') := hD.sub [36, 37, 38, 39, 40, 41, 42, 43, 44, 45, 46, 47, 48, 49, 50, 51, 52, 53, 54, 55, 56, 57, 58, 59, 0, 1, 2, 3, 4, 5, 6, 7, 8, 9, 10, 11, 12, 13, 14, 15, 16, 17, 18, 19, 20, 21, 22, 23, 24, 25, 26, 27, 28, 29, 30, 31, 32, 33, 34, 35] (by decide) rfl
      refine lv_iload hx hb dL_law_369 (lv_at hl 1 rfl) ?_
      refine lv_icmp_eq (tgt := 376) hx hb dL_law_371 (by decide) (fun _ => ?_) (fun c1 => absurd ht c1)
      refine lv_iload hx hb dL_law_376 (lv_at hl 1 rfl) ?_
      refine lv_if_ne (tgt := 393) hx hb dL_law_378 (by decide) (fun _ => ?_) (fun c1 => absurd c1 (by decide))
      refine lv_goto (tgt := 1764) hx hb dL_law_393 (by decide) ?_
      exact kk _ _ _ _ _ ls hrel hP hD hS (lv_sub hl [2, 3, 4, 5, 6] rfl)
    · exact absurd hq List.not_mem_nil

set_option maxHeartbeats 4000000 in
set_option maxRecDepth 100000 in
theorem lc_section {p : Program} {l : Launch} {e : Env} {s : State} {m : MethodId} {below : List Frame} {meth : Method} {c : Code} {b L : Nat} {xs : Nat → Int32} (hl0 : l.stackTraces = false) (C0 : lw_At p s m meth c b L xs) (hZ : cst (fun q : Nat => s.heap.size ≤ q) s) {D : va_G} {cI cZ cJ : ClassId} (hK : va_K D vwCl [(cI, .int), (cZ, .boolean), (cJ, .long)] s) {Rel : GS → MS → Prop} {am ad : Nat → Nat} {o : Nat} {f : Nat → Int64} {u : GS} {v : MS} {i : Int32} {j : Nat} (hj : j ≤ 511) (hi : lin i L) {p1 : Int32} (hp1 : xs (i + 1).toNatClampNeg = p1) {p2 : Int32} (hp2 : xs (i + 2).toNatClampNeg = p2) (hsim : SI Rel (g_X9_section u p1 p2) (g_X10_section v p1 p2) [("java/lang/IndexOutOfBoundsException", 1), ("java/lang/IllegalArgumentException", 2)]) {H : Heap} {locs : List Loc} {ls : Array Slot} (hP : va_P D vwCl (wM cI cZ am v ++ wL cI cZ cJ ad o f u) H) (hD : va_D (fun q : Nat => s.heap.size ≤ q) (wM cI cZ am v ++ wL cI cZ cJ ad o f u)) (hS : va_S (fun q : Nat => s.heap.size ≤ q) s.heap H locs) (hl : lv_has ls 7 [(0, .ref b), (1, .ref (ad 0)), (2, .ref (am 0)), (3, .ref o), (4, .int i)]) (kk : ∀ (u' : GS) (v' : MS) (f' : Nat → Int64) (H : Heap) (locs : List Loc) (ls : Array Slot), Rel u' v' → va_P D vwCl (wM cI cZ am v' ++ wL cI cZ cJ ad o f' u') H → va_D (fun q : Nat => s.heap.size ≤ q) (wM cI cZ am v' ++ wL cI cZ cJ ad o f' u') → va_S (fun q : Nat => s.heap.size ≤ q) s.heap H locs → lv_has ls 7 [(0, .ref b), (1, .ref (ad 0)), (2, .ref (am 0)), (3, .ref o), (4, .int i)] → W p l e room_1 s m #[Value.ref b] below meth c H locs (60 + (j + 1)) (5141 + 6 * (j + 1)) (lw_Z below #[Value.ref b] s) (F0 m 1764 ls [])) : W p l e room_1 s m #[Value.ref b] below meth c H locs (60 + j) (5141 + 6 * j) (lw_Z below #[Value.ref b] s) (F0 m 396 ls []) := by
  obtain ⟨hx, hb, hr, hml, hown, hts0, hX, hbl, hlocks, hgv⟩ := id C0
  have hts : ∀ w ∈ Wall, w.before #[Value.ref b] s = true := fun w h => hts0 w (wall_tbl w h)
  have hA : ∀ q : Nat, s.heap.size ≤ q → (fun q : Nat => s.heap.size ≤ q) q := fun _ h => h
  have hbA : ¬ (fun q : Nat => s.heap.size ≤ q) b := Nat.not_le.mpr hbl
  obtain ⟨-, hi1, hi2, hi3, hi4, hi5⟩ := hi
  rcases hsim with ⟨r, u', v', hc, hm, ht, hrel⟩ | ⟨q, u', b9, v', hq, hc, hm, ht, hrel⟩
  · refine lv_aload_n hx hb dL_law_396 rfl (lv_at hl 1 rfl) ?_
    refine lv_aload_n hx hb dL_law_397 rfl (lv_at hl 0 rfl) ?_
    refine lv_iload hx hb dL_law_398 (lv_at hl 4 rfl) ?_
    refine lv_iconst (v := 1) hx hb dL_law_400 (by decide) ?_
    refine lv_iadd hx hb dL_law_401 ?_
    refine va_sld hx hb hX hbl hbA hS hi1 dL_law_402 ?_
    refine lv_topn hp1 ?_
    refine lv_aload_n hx hb dL_law_403 rfl (lv_at hl 0 rfl) ?_
    refine lv_iload hx hb dL_law_404 (lv_at hl 4 rfl) ?_
    refine lv_iconst (v := 2) hx hb dL_law_406 (by decide) ?_
    refine lv_iadd hx hb dL_law_407 ?_
    refine va_sld hx hb hX hbl hbA hS hi2 dL_law_408 ?_
    refine lv_topn hp2 ?_
    refine lv_aload_n hx hb dL_law_409 rfl (lv_at hl 3 rfl) ?_
    refine cc_iSHF (As := [.ref (ad 0), .int p1, .int p2, .ref o]) (rest := []) (wr := wM cI cZ am v) ⟨hx, hb, hml, hown, hts⟩ (k_L_section l D cI cZ cJ ad o f u p1 p2 hc) (vx_cwSW 4 hts (gwSH mw_629 mw_630 mw_47 mw_631) rfl rfl rfl (by decide +kernel) ⟨(Nat.le_of_ble_eq_true rfl), (Nat.le_of_ble_eq_true rfl)⟩) hK hP hD hS hA hZ [24, 25, 26, 27, 28, 29, 30, 31, 32, 33, 34, 35, 36, 37, 38, 39, 40, 41, 42, 43, 44, 45, 46, 47, 48, 49, 50, 51, 52, 53, 54, 55, 56, 57, 58, 59] [0, 1, 2, 3, 4, 5, 6, 7, 8, 9, 10, 11, 12, 13, 14, 15, 16, 17, 18, 19, 20, 21, 22, 23] rfl rfl (by decide) rfl (by decide) (by decide) rfl hl.1 rfl (Nat.le_of_ble_eq_true rfl) dL_law_410 ⟨by show 60 + j ≤ 1087; omega, by show 5141 + 6 * j ≤ 13351; omega⟩ (fun H locs hP hD hS => ?_)
    replace hP : va_P D vwCl (wM cI cZ am v ++ wL cI cZ cJ ad o (vp_updL f (0 : Int32).toNatClampNeg r.toInt64) u') H := hP
    replace hD : va_D (fun q : Nat => s.heap.size ≤ q) (wM cI cZ am v ++ wL cI cZ cJ ad o (vp_updL f (0 : Int32).toNatClampNeg r.toInt64) u') := hD
    refine W.widen (k := 60 + (j + 1)) (n := 5141 + 6 * (j + 1)) (by omega) (by omega) ?_
    refine lv_istore (lv' := [(5, .int 0), (0, .ref b), (1, .ref (ad 0)), (2, .ref (am 0)), (3, .ref o), (4, .int i)]) hx hb dL_law_413 hl (by decide) rfl (fun ls hl => ?_)
    refine lv_aload_n hx hb dL_law_415 rfl (lv_at hl 3 rfl) ?_
    refine lv_aload_n hx hb dL_law_416 rfl (lv_at hl 1 rfl) ?_
    refine lv_iload hx hb dL_law_417 (lv_at hl 5 rfl) ?_
    refine lv_iconst (v := 1) hx hb dL_law_419 (by decide) ?_
    refine lv_iadd hx hb dL_law_420 ?_
    refine va_sld hx hb hX hbl hbA hS hi1 dL_law_421 ?_
    refine lv_topn hp1 ?_
    refine lv_aload_n hx hb dL_law_422 rfl (lv_at hl 1 rfl) ?_
    refine lv_iload hx hb dL_law_423 (lv_at hl 5 rfl) ?_
    refine lv_iconst (v := 2) hx hb dL_law_425 (by decide) ?_
    refine lv_iadd hx hb dL_law_426 ?_
    refine va_sld hx hb hX hbl hbA hS hi2 dL_law_427 ?_
    refine lv_topn hp2 ?_
    refine cc_iVF (As := [.int p1, .int p2]) (rest := []) (wr := wL cI cZ cJ ad o (vp_updL f (0 : Int32).toNatClampNeg r.toInt64) u') ⟨hx, hb, hml, hown, hts⟩ (k_X10_section l D cI cZ am v p1 p2 hm) (cwV 2 hts (gwV mw_1046 mw_1047 mw_1048 mw_59 mw_1049) rfl rfl rfl (by decide +kernel) ⟨(Nat.le_of_ble_eq_true rfl), (Nat.le_of_ble_eq_true rfl)⟩) (hK.sub [0, 1] rfl) hP hD hS hA hZ [0, 1, 2, 3, 4, 5, 6, 7, 8, 9, 10, 11, 12, 13, 14, 15, 16, 17, 18, 19, 20, 21, 22, 23] [24, 25, 26, 27, 28, 29, 30, 31, 32, 33, 34, 35, 36, 37, 38, 39, 40, 41, 42, 43, 44, 45, 46, 47, 48, 49, 50, 51, 52, 53, 54, 55, 56, 57, 58, 59] rfl rfl (by decide) rfl (by decide) (by decide) (ci := 10) (q0 := 0) rfl rfl rfl hl.1 rfl (Nat.le_of_ble_eq_true rfl) dL_law_428 ⟨by show 60 + (j + 1) ≤ 1087; omega, by show 5141 + 6 * (j + 1) ≤ 13351; omega⟩ (fun H locs hP hD hS => ?_)
    replace hP : va_P D vwCl (wM cI cZ am v' ++ wL cI cZ cJ ad o (vp_updL f (0 : Int32).toNatClampNeg r.toInt64) u') H := hP.sub [36, 37, 38, 39, 40, 41, 42, 43, 44, 45, 46, 47, 48, 49, 50, 51, 52, 53, 54, 55, 56, 57, 58, 59, 0, 1, 2, 3, 4, 5, 6, 7, 8, 9, 10, 11, 12, 13, 14, 15, 16, 17, 18, 19, 20, 21, 22, 23, 24, 25, 26, 27, 28, 29, 30, 31, 32, 33, 34, 35] rfl
    replace hD : va_D (fun q : Nat => s.heap.size ≤ q) (wM cI cZ am v' ++ wL cI cZ cJ ad o (vp_updL f (0 : Int32).toNatClampNeg r.toInt64) u') := hD.sub [36, 37, 38, 39, 40, 41, 42, 43, 44, 45, 46, 47, 48, 49, 50, 51, 52, 53, 54, 55, 56, 57, 58, 59, 0, 1, 2, 3, 4, 5, 6, 7, 8, 9, 10, 11, 12, 13, 14, 15, 16, 17, 18, 19, 20, 21, 22, 23, 24, 25, 26, 27, 28, 29, 30, 31, 32, 33, 34, 35] (by decide) rfl
    refine lv_istore (lv' := [(6, .int r), (5, .int 0), (0, .ref b), (1, .ref (ad 0)), (2, .ref (am 0)), (3, .ref o), (4, .int i)]) hx hb dL_law_431 hl (by decide) rfl (fun ls hl => ?_)
    refine lv_aload_n hx hb dL_law_433 rfl (lv_at hl 4 rfl) ?_
    refine cc_iVF (As := []) (rest := []) (wr := wL cI cZ cJ ad o (vp_updL f (0 : Int32).toNatClampNeg r.toInt64) u') ⟨hx, hb, hml, hown, hts⟩ (k_X10_thrown l D cI cZ am v' rfl) (cwV 0 hts (gwV mw_968 mw_969 mw_970 mw_59 mw_971) rfl rfl rfl (by decide +kernel) ⟨(Nat.le_of_ble_eq_true rfl), (Nat.le_of_ble_eq_true rfl)⟩) (hK.sub [0, 1] rfl) hP hD hS hA hZ [0, 1, 2, 3, 4, 5, 6, 7, 8, 9, 10, 11, 12, 13, 14, 15, 16, 17, 18, 19, 20, 21, 22, 23] [24, 25, 26, 27, 28, 29, 30, 31, 32, 33, 34, 35, 36, 37, 38, 39, 40, 41, 42, 43, 44, 45, 46, 47, 48, 49, 50, 51, 52, 53, 54, 55, 56, 57, 58, 59] rfl rfl (by decide) rfl (by decide) (by decide) (ci := 10) (q0 := 0) rfl rfl rfl hl.1 rfl (Nat.le_of_ble_eq_true rfl) dL_law_434 ⟨by show 60 + (j + 1) ≤ 1087; omega, by show 5141 + 6 * (j + 1) ≤ 13351; omega⟩ (fun H locs hP hD hS => ?_)
    replace hP : va_P D vwCl (wM cI cZ am v' ++ wL cI cZ cJ ad o (vp_updL f (0 : Int32).toNatClampNeg r.toInt64) u') H := hP.sub [36, 37, 38, 39, 40, 41, 42, 43, 44, 45, 46, 47, 48, 49, 50, 51, 52, 53, 54, 55, 56, 57, 58, 59, 0, 1, 2, 3, 4, 5, 6, 7, 8, 9, 10, 11, 12, 13, 14, 15, 16, 17, 18, 19, 20, 21, 22, 23, 24, 25, 26, 27, 28, 29, 30, 31, 32, 33, 34, 35] rfl
    replace hD : va_D (fun q : Nat => s.heap.size ≤ q) (wM cI cZ am v' ++ wL cI cZ cJ ad o (vp_updL f (0 : Int32).toNatClampNeg r.toInt64) u') := hD.sub [36, 37, 38, 39, 40, 41, 42, 43, 44, 45, 46, 47, 48, 49, 50, 51, 52, 53, 54, 55, 56, 57, 58, 59, 0, 1, 2, 3, 4, 5, 6, 7, 8, 9, 10, 11, 12, 13, 14, 15, 16, 17, 18, 19, 20, 21, 22, 23, 24, 25, 26, 27, 28, 29, 30, 31, 32, 33, 34, 35] (by decide) rfl
    refine lv_iload hx hb dL_law_437 (lv_at hl 1 rfl) ?_
    refine lv_icmp_eq (tgt := 444) hx hb dL_law_439 (by decide) (fun _ => ?_) (fun c1 => absurd ht c1)
    refine lv_iload hx hb dL_law_444 (lv_at hl 1 rfl) ?_
    refine lv_if_ne (tgt := 461) hx hb dL_law_446 (by decide) (fun c1 => absurd rfl c1) (fun _ => ?_)
    refine lv_aload_n hx hb dL_law_449 rfl (lv_at hl 5 rfl) ?_
    refine lv_iconst (v := 0) hx hb dL_law_450 (by decide) ?_
    refine va_lald (D := D) hx hb hK hP 24 2 rfl rfl (by unfold vp_in; decide) dL_law_451 ?_
    refine lv_iload hx hb dL_law_452 (lv_at hl 0 rfl) ?_
    refine lv_i2l (v := r.toInt64) hx hb dL_law_454 rfl ?_
    refine W.lcmp hx hb dL_law_455 ?_
    refine lv_if_eq (tgt := 461) hx hb dL_law_456 (by decide) (fun _ => ?_) (fun c2 => absurd (by simp [lg_cmp, vp_updL]) c2)
    refine lv_goto (tgt := 1764) hx hb dL_law_461 (by decide) ?_
    exact kk _ _ _ _ _ ls hrel hP hD hS (lv_sub hl [2, 3, 4, 5, 6] rfl)
  · rcases List.mem_cons.mp hq with rfl | hq
    · refine lv_aload_n hx hb dL_law_396 rfl (lv_at hl 1 rfl) ?_
      refine lv_aload_n hx hb dL_law_397 rfl (lv_at hl 0 rfl) ?_
      refine lv_iload hx hb dL_law_398 (lv_at hl 4 rfl) ?_
      refine lv_iconst (v := 1) hx hb dL_law_400 (by decide) ?_
      refine lv_iadd hx hb dL_law_401 ?_
      refine va_sld hx hb hX hbl hbA hS hi1 dL_law_402 ?_
      refine lv_topn hp1 ?_
      refine lv_aload_n hx hb dL_law_403 rfl (lv_at hl 0 rfl) ?_
      refine lv_iload hx hb dL_law_404 (lv_at hl 4 rfl) ?_
      refine lv_iconst (v := 2) hx hb dL_law_406 (by decide) ?_
      refine lv_iadd hx hb dL_law_407 ?_
      refine va_sld hx hb hX hbl hbA hS hi2 dL_law_408 ?_
      refine lv_topn hp2 ?_
      refine lv_aload_n hx hb dL_law_409 rfl (lv_at hl 3 rfl) ?_
      refine cc_iSHF (As := [.ref (ad 0), .int p1, .int p2, .ref o]) (rest := []) (wr := wM cI cZ am v) ⟨hx, hb, hml, hown, hts⟩ (kx1_L_section l hl0 D cI cZ cJ ad o f u p1 p2 hc) (vx_cwSW 4 hts (gwSH mw_629 mw_630 mw_47 mw_631) rfl rfl rfl (by decide +kernel) ⟨(Nat.le_of_ble_eq_true rfl), (Nat.le_of_ble_eq_true rfl)⟩) hK hP hD hS hA hZ [24, 25, 26, 27, 28, 29, 30, 31, 32, 33, 34, 35, 36, 37, 38, 39, 40, 41, 42, 43, 44, 45, 46, 47, 48, 49, 50, 51, 52, 53, 54, 55, 56, 57, 58, 59] [0, 1, 2, 3, 4, 5, 6, 7, 8, 9, 10, 11, 12, 13, 14, 15, 16, 17, 18, 19, 20, 21, 22, 23] rfl rfl (by decide) rfl (by decide) (by decide) rfl hl.1 rfl (Nat.le_of_ble_eq_true rfl) dL_law_410 ⟨by show 60 + j + 1 ≤ 1087; omega, by show 5141 + 6 * j + 6 ≤ 13351; omega⟩ (fun H locs hP hD hS => ?_)
      replace hP : va_P D vwCl (wM cI cZ am v ++ wL cI cZ cJ ad o f u') H := hP
      replace hD : va_D (fun q : Nat => s.heap.size ≤ q) (wM cI cZ am v ++ wL cI cZ cJ ad o f u') := hD
      refine W.widen (k := 60 + (j + 1)) (n := 5141 + 6 * (j + 1)) (by omega) (by omega) ?_
      refine lv_istore (lv' := [(5, .int 1), (0, .ref b), (1, .ref (ad 0)), (2, .ref (am 0)), (3, .ref o), (4, .int i)]) hx hb dL_law_413 hl (by decide) rfl (fun ls hl => ?_)
      refine lv_aload_n hx hb dL_law_415 rfl (lv_at hl 3 rfl) ?_
      refine lv_aload_n hx hb dL_law_416 rfl (lv_at hl 1 rfl) ?_
      refine lv_iload hx hb dL_law_417 (lv_at hl 5 rfl) ?_
      refine lv_iconst (v := 1) hx hb dL_law_419 (by decide) ?_
      refine lv_iadd hx hb dL_law_420 ?_
      refine va_sld hx hb hX hbl hbA hS hi1 dL_law_421 ?_
      refine lv_topn hp1 ?_
      refine lv_aload_n hx hb dL_law_422 rfl (lv_at hl 1 rfl) ?_
      refine lv_iload hx hb dL_law_423 (lv_at hl 5 rfl) ?_
      refine lv_iconst (v := 2) hx hb dL_law_425 (by decide) ?_
      refine lv_iadd hx hb dL_law_426 ?_
      refine va_sld hx hb hX hbl hbA hS hi2 dL_law_427 ?_
      refine lv_topn hp2 ?_
      refine cc_iVF (As := [.int p1, .int p2]) (rest := []) (wr := wL cI cZ cJ ad o f u') ⟨hx, hb, hml, hown, hts⟩ (k_X10_section l D cI cZ am v p1 p2 hm) (cwV 2 hts (gwV mw_1046 mw_1047 mw_1048 mw_59 mw_1049) rfl rfl rfl (by decide +kernel) ⟨(Nat.le_of_ble_eq_true rfl), (Nat.le_of_ble_eq_true rfl)⟩) (hK.sub [0, 1] rfl) hP hD hS hA hZ [0, 1, 2, 3, 4, 5, 6, 7, 8, 9, 10, 11, 12, 13, 14, 15, 16, 17, 18, 19, 20, 21, 22, 23] [24, 25, 26, 27, 28, 29, 30, 31, 32, 33, 34, 35, 36, 37, 38, 39, 40, 41, 42, 43, 44, 45, 46, 47, 48, 49, 50, 51, 52, 53, 54, 55, 56, 57, 58, 59] rfl rfl (by decide) rfl (by decide) (by decide) (ci := 10) (q0 := 0) rfl rfl rfl hl.1 rfl (Nat.le_of_ble_eq_true rfl) dL_law_428 ⟨by show 60 + (j + 1) ≤ 1087; omega, by show 5141 + 6 * (j + 1) ≤ 13351; omega⟩ (fun H locs hP hD hS => ?_)
      replace hP : va_P D vwCl (wM cI cZ am v' ++ wL cI cZ cJ ad o f u') H := hP.sub [36, 37, 38, 39, 40, 41, 42, 43, 44, 45, 46, 47, 48, 49, 50, 51, 52, 53, 54, 55, 56, 57, 58, 59, 0, 1, 2, 3, 4, 5, 6, 7, 8, 9, 10, 11, 12, 13, 14, 15, 16, 17, 18, 19, 20, 21, 22, 23, 24, 25, 26, 27, 28, 29, 30, 31, 32, 33, 34, 35] rfl
      replace hD : va_D (fun q : Nat => s.heap.size ≤ q) (wM cI cZ am v' ++ wL cI cZ cJ ad o f u') := hD.sub [36, 37, 38, 39, 40, 41, 42, 43, 44, 45, 46, 47, 48, 49, 50, 51, 52, 53, 54, 55, 56, 57, 58, 59, 0, 1, 2, 3, 4, 5, 6, 7, 8, 9, 10, 11, 12, 13, 14, 15, 16, 17, 18, 19, 20, 21, 22, 23, 24, 25, 26, 27, 28, 29, 30, 31, 32, 33, 34, 35] (by decide) rfl
      refine lv_istore (lv' := [(6, .int b9), (5, .int 1), (0, .ref b), (1, .ref (ad 0)), (2, .ref (am 0)), (3, .ref o), (4, .int i)]) hx hb dL_law_431 hl (by decide) rfl (fun ls hl => ?_)
      refine lv_aload_n hx hb dL_law_433 rfl (lv_at hl 4 rfl) ?_
      refine cc_iVF (As := []) (rest := []) (wr := wL cI cZ cJ ad o f u') ⟨hx, hb, hml, hown, hts⟩ (k_X10_thrown l D cI cZ am v' rfl) (cwV 0 hts (gwV mw_968 mw_969 mw_970 mw_59 mw_971) rfl rfl rfl (by decide +kernel) ⟨(Nat.le_of_ble_eq_true rfl), (Nat.le_of_ble_eq_true rfl)⟩) (hK.sub [0, 1] rfl) hP hD hS hA hZ [0, 1, 2, 3, 4, 5, 6, 7, 8, 9, 10, 11, 12, 13, 14, 15, 16, 17, 18, 19, 20, 21, 22, 23] [24, 25, 26, 27, 28, 29, 30, 31, 32, 33, 34, 35, 36, 37, 38, 39, 40, 41, 42, 43, 44, 45, 46, 47, 48, 49, 50, 51, 52, 53, 54, 55, 56, 57, 58, 59] rfl rfl (by decide) rfl (by decide) (by decide) (ci := 10) (q0 := 0) rfl rfl rfl hl.1 rfl (Nat.le_of_ble_eq_true rfl) dL_law_434 ⟨by show 60 + (j + 1) ≤ 1087; omega, by show 5141 + 6 * (j + 1) ≤ 13351; omega⟩ (fun H locs hP hD hS => ?_)
      replace hP : va_P D vwCl (wM cI cZ am v' ++ wL cI cZ cJ ad o f u') H := hP.sub [36, 37, 38, 39, 40, 41, 42, 43, 44, 45, 46, 47, 48, 49, 50, 51, 52, 53, 54, 55, 56, 57, 58, 59, 0, 1, 2, 3, 4, 5, 6, 7, 8, 9, 10, 11, 12, 13, 14, 15, 16, 17, 18, 19, 20, 21, 22, 23, 24, 25, 26, 27, 28, 29, 30, 31, 32, 33, 34, 35] rfl
      replace hD : va_D (fun q : Nat => s.heap.size ≤ q) (wM cI cZ am v' ++ wL cI cZ cJ ad o f u') := hD.sub [36, 37, 38, 39, 40, 41, 42, 43, 44, 45, 46, 47, 48, 49, 50, 51, 52, 53, 54, 55, 56, 57, 58, 59, 0, 1, 2, 3, 4, 5, 6, 7, 8, 9, 10, 11, 12, 13, 14, 15, 16, 17, 18, 19, 20, 21, 22, 23, 24, 25, 26, 27, 28, 29, 30, 31, 32, 33, 34, 35] (by decide) rfl
      refine lv_iload hx hb dL_law_437 (lv_at hl 1 rfl) ?_
      refine lv_icmp_eq (tgt := 444) hx hb dL_law_439 (by decide) (fun _ => ?_) (fun c1 => absurd ht c1)
      refine lv_iload hx hb dL_law_444 (lv_at hl 1 rfl) ?_
      refine lv_if_ne (tgt := 461) hx hb dL_law_446 (by decide) (fun _ => ?_) (fun c1 => absurd c1 (by decide))
      refine lv_goto (tgt := 1764) hx hb dL_law_461 (by decide) ?_
      exact kk _ _ _ _ _ ls hrel hP hD hS (lv_sub hl [2, 3, 4, 5, 6] rfl)
    · rcases List.mem_cons.mp hq with rfl | hq
      · refine lv_aload_n hx hb dL_law_396 rfl (lv_at hl 1 rfl) ?_
        refine lv_aload_n hx hb dL_law_397 rfl (lv_at hl 0 rfl) ?_
        refine lv_iload hx hb dL_law_398 (lv_at hl 4 rfl) ?_
        refine lv_iconst (v := 1) hx hb dL_law_400 (by decide) ?_
        refine lv_iadd hx hb dL_law_401 ?_
        refine va_sld hx hb hX hbl hbA hS hi1 dL_law_402 ?_
        refine lv_topn hp1 ?_
        refine lv_aload_n hx hb dL_law_403 rfl (lv_at hl 0 rfl) ?_
        refine lv_iload hx hb dL_law_404 (lv_at hl 4 rfl) ?_
        refine lv_iconst (v := 2) hx hb dL_law_406 (by decide) ?_
        refine lv_iadd hx hb dL_law_407 ?_
        refine va_sld hx hb hX hbl hbA hS hi2 dL_law_408 ?_
        refine lv_topn hp2 ?_
        refine lv_aload_n hx hb dL_law_409 rfl (lv_at hl 3 rfl) ?_
        refine cc_iSHF (As := [.ref (ad 0), .int p1, .int p2, .ref o]) (rest := []) (wr := wM cI cZ am v) ⟨hx, hb, hml, hown, hts⟩ (kx2_L_section l hl0 D cI cZ cJ ad o f u p1 p2 hc) (vx_cwSW 4 hts (gwSH mw_629 mw_630 mw_47 mw_631) rfl rfl rfl (by decide +kernel) ⟨(Nat.le_of_ble_eq_true rfl), (Nat.le_of_ble_eq_true rfl)⟩) hK hP hD hS hA hZ [24, 25, 26, 27, 28, 29, 30, 31, 32, 33, 34, 35, 36, 37, 38, 39, 40, 41, 42, 43, 44, 45, 46, 47, 48, 49, 50, 51, 52, 53, 54, 55, 56, 57, 58, 59] [0, 1, 2, 3, 4, 5, 6, 7, 8, 9, 10, 11, 12, 13, 14, 15, 16, 17, 18, 19, 20, 21, 22, 23] rfl rfl (by decide) rfl (by decide) (by decide) rfl hl.1 rfl (Nat.le_of_ble_eq_true rfl) dL_law_410 ⟨by show 60 + j + 1 ≤ 1087; omega, by show 5141 + 6 * j + 6 ≤ 13351; omega⟩ (fun H locs hP hD hS => ?_)
        replace hP : va_P D vwCl (wM cI cZ am v ++ wL cI cZ cJ ad o f u') H := hP
        replace hD : va_D (fun q : Nat => s.heap.size ≤ q) (wM cI cZ am v ++ wL cI cZ cJ ad o f u') := hD
        refine W.widen (k := 60 + (j + 1)) (n := 5141 + 6 * (j + 1)) (by omega) (by omega) ?_
        refine lv_istore (lv' := [(5, .int 2), (0, .ref b), (1, .ref (ad 0)), (2, .ref (am 0)), (3, .ref o), (4, .int i)]) hx hb dL_law_413 hl (by decide) rfl (fun ls hl => ?_)
        refine lv_aload_n hx hb dL_law_415 rfl (lv_at hl 3 rfl) ?_
        refine lv_aload_n hx hb dL_law_416 rfl (lv_at hl 1 rfl) ?_
        refine lv_iload hx hb dL_law_417 (lv_at hl 5 rfl) ?_
        refine lv_iconst (v := 1) hx hb dL_law_419 (by decide) ?_
        refine lv_iadd hx hb dL_law_420 ?_
        refine va_sld hx hb hX hbl hbA hS hi1 dL_law_421 ?_
        refine lv_topn hp1 ?_
        refine lv_aload_n hx hb dL_law_422 rfl (lv_at hl 1 rfl) ?_
        refine lv_iload hx hb dL_law_423 (lv_at hl 5 rfl) ?_
        refine lv_iconst (v := 2) hx hb dL_law_425 (by decide) ?_
        refine lv_iadd hx hb dL_law_426 ?_
        refine va_sld hx hb hX hbl hbA hS hi2 dL_law_427 ?_
        refine lv_topn hp2 ?_
        refine cc_iVF (As := [.int p1, .int p2]) (rest := []) (wr := wL cI cZ cJ ad o f u') ⟨hx, hb, hml, hown, hts⟩ (k_X10_section l D cI cZ am v p1 p2 hm) (cwV 2 hts (gwV mw_1046 mw_1047 mw_1048 mw_59 mw_1049) rfl rfl rfl (by decide +kernel) ⟨(Nat.le_of_ble_eq_true rfl), (Nat.le_of_ble_eq_true rfl)⟩) (hK.sub [0, 1] rfl) hP hD hS hA hZ [0, 1, 2, 3, 4, 5, 6, 7, 8, 9, 10, 11, 12, 13, 14, 15, 16, 17, 18, 19, 20, 21, 22, 23] [24, 25, 26, 27, 28, 29, 30, 31, 32, 33, 34, 35, 36, 37, 38, 39, 40, 41, 42, 43, 44, 45, 46, 47, 48, 49, 50, 51, 52, 53, 54, 55, 56, 57, 58, 59] rfl rfl (by decide) rfl (by decide) (by decide) (ci := 10) (q0 := 0) rfl rfl rfl hl.1 rfl (Nat.le_of_ble_eq_true rfl) dL_law_428 ⟨by show 60 + (j + 1) ≤ 1087; omega, by show 5141 + 6 * (j + 1) ≤ 13351; omega⟩ (fun H locs hP hD hS => ?_)
        replace hP : va_P D vwCl (wM cI cZ am v' ++ wL cI cZ cJ ad o f u') H := hP.sub [36, 37, 38, 39, 40, 41, 42, 43, 44, 45, 46, 47, 48, 49, 50, 51, 52, 53, 54, 55, 56, 57, 58, 59, 0, 1, 2, 3, 4, 5, 6, 7, 8, 9, 10, 11, 12, 13, 14, 15, 16, 17, 18, 19, 20, 21, 22, 23, 24, 25, 26, 27, 28, 29, 30, 31, 32, 33, 34, 35] rfl
        replace hD : va_D (fun q : Nat => s.heap.size ≤ q) (wM cI cZ am v' ++ wL cI cZ cJ ad o f u') := hD.sub [36, 37, 38, 39, 40, 41, 42, 43, 44, 45, 46, 47, 48, 49, 50, 51, 52, 53, 54, 55, 56, 57, 58, 59, 0, 1, 2, 3, 4, 5, 6, 7, 8, 9, 10, 11, 12, 13, 14, 15, 16, 17, 18, 19, 20, 21, 22, 23, 24, 25, 26, 27, 28, 29, 30, 31, 32, 33, 34, 35] (by decide) rfl
        refine lv_istore (lv' := [(6, .int b9), (5, .int 2), (0, .ref b), (1, .ref (ad 0)), (2, .ref (am 0)), (3, .ref o), (4, .int i)]) hx hb dL_law_431 hl (by decide) rfl (fun ls hl => ?_)
        refine lv_aload_n hx hb dL_law_433 rfl (lv_at hl 4 rfl) ?_
        refine cc_iVF (As := []) (rest := []) (wr := wL cI cZ cJ ad o f u') ⟨hx, hb, hml, hown, hts⟩ (k_X10_thrown l D cI cZ am v' rfl) (cwV 0 hts (gwV mw_968 mw_969 mw_970 mw_59 mw_971) rfl rfl rfl (by decide +kernel) ⟨(Nat.le_of_ble_eq_true rfl), (Nat.le_of_ble_eq_true rfl)⟩) (hK.sub [0, 1] rfl) hP hD hS hA hZ [0, 1, 2, 3, 4, 5, 6, 7, 8, 9, 10, 11, 12, 13, 14, 15, 16, 17, 18, 19, 20, 21, 22, 23] [24, 25, 26, 27, 28, 29, 30, 31, 32, 33, 34, 35, 36, 37, 38, 39, 40, 41, 42, 43, 44, 45, 46, 47, 48, 49, 50, 51, 52, 53, 54, 55, 56, 57, 58, 59] rfl rfl (by decide) rfl (by decide) (by decide) (ci := 10) (q0 := 0) rfl rfl rfl hl.1 rfl (Nat.le_of_ble_eq_true rfl) dL_law_434 ⟨by show 60 + (j + 1) ≤ 1087; omega, by show 5141 + 6 * (j + 1) ≤ 13351; omega⟩ (fun H locs hP hD hS => ?_)
        replace hP : va_P D vwCl (wM cI cZ am v' ++ wL cI cZ cJ ad o f u') H := hP.sub [36, 37, 38, 39, 40, 41, 42, 43, 44, 45, 46, 47, 48, 49, 50, 51, 52, 53, 54, 55, 56, 57, 58, 59, 0, 1, 2, 3, 4, 5, 6, 7, 8, 9, 10, 11, 12, 13, 14, 15, 16, 17, 18, 19, 20, 21, 22, 23, 24, 25, 26, 27, 28, 29, 30, 31, 32, 33, 34, 35] rfl
        replace hD : va_D (fun q : Nat => s.heap.size ≤ q) (wM cI cZ am v' ++ wL cI cZ cJ ad o f u') := hD.sub [36, 37, 38, 39, 40, 41, 42, 43, 44, 45, 46, 47, 48, 49, 50, 51, 52, 53, 54, 55, 56, 57, 58, 59, 0, 1, 2, 3, 4, 5, 6, 7, 8, 9, 10, 11, 12, 13, 14, 15, 16, 17, 18, 19, 20, 21, 22, 23, 24, 25, 26, 27, 28, 29, 30, 31, 32, 33, 34, 35] (by decide) rfl
        refine lv_iload hx hb dL_law_437 (lv_at hl 1 rfl) ?_
        refine lv_icmp_eq (tgt := 444) hx hb dL_law_439 (by decide) (fun _ => ?_) (fun c1 => absurd ht c1)
        refine lv_iload hx hb dL_law_444 (lv_at hl 1 rfl) ?_
        refine lv_if_ne (tgt := 461) hx hb dL_law_446 (by decide) (fun _ => ?_) (fun c1 => absurd c1 (by decide))
        refine lv_goto (tgt := 1764) hx hb dL_law_461 (by decide) ?_
        exact kk _ _ _ _ _ ls hrel hP hD hS (lv_sub hl [2, 3, 4, 5, 6] rfl)
      · exact absurd hq List.not_mem_nil

set_option maxHeartbeats 4000000 in
set_option maxRecDepth 100000 in
theorem lc_detector {p : Program} {l : Launch} {e : Env} {s : State} {m : MethodId} {below : List Frame} {meth : Method} {c : Code} {b L : Nat} {xs : Nat → Int32} (hl0 : l.stackTraces = false) (C0 : lw_At p s m meth c b L xs) (hZ : cst (fun q : Nat => s.heap.size ≤ q) s) {D : va_G} {cI cZ cJ : ClassId} (hK : va_K D vwCl [(cI, .int), (cZ, .boolean), (cJ, .long)] s) {Rel : GS → MS → Prop} {am ad : Nat → Nat} {o : Nat} {f : Nat → Int64} {u : GS} {v : MS} {i : Int32} {j : Nat} (hj : j ≤ 511) (hi : lin i L) {p1 : Int32} (hp1 : xs (i + 1).toNatClampNeg = p1) {p2 : Int32} (hp2 : xs (i + 2).toNatClampNeg = p2) {p3 : Int32} (hp3 : xs (i + 3).toNatClampNeg = p3) (hsim : SI Rel (g_X9_detector u p1 p2 p3) (g_X10_detector v p1 p2 p3) [("java/lang/IndexOutOfBoundsException", 1), ("java/lang/IllegalArgumentException", 2)]) {H : Heap} {locs : List Loc} {ls : Array Slot} (hP : va_P D vwCl (wM cI cZ am v ++ wL cI cZ cJ ad o f u) H) (hD : va_D (fun q : Nat => s.heap.size ≤ q) (wM cI cZ am v ++ wL cI cZ cJ ad o f u)) (hS : va_S (fun q : Nat => s.heap.size ≤ q) s.heap H locs) (hl : lv_has ls 7 [(0, .ref b), (1, .ref (ad 0)), (2, .ref (am 0)), (3, .ref o), (4, .int i)]) (kk : ∀ (u' : GS) (v' : MS) (f' : Nat → Int64) (H : Heap) (locs : List Loc) (ls : Array Slot), Rel u' v' → va_P D vwCl (wM cI cZ am v' ++ wL cI cZ cJ ad o f' u') H → va_D (fun q : Nat => s.heap.size ≤ q) (wM cI cZ am v' ++ wL cI cZ cJ ad o f' u') → va_S (fun q : Nat => s.heap.size ≤ q) s.heap H locs → lv_has ls 7 [(0, .ref b), (1, .ref (ad 0)), (2, .ref (am 0)), (3, .ref o), (4, .int i)] → W p l e room_1 s m #[Value.ref b] below meth c H locs (60 + (j + 1)) (5141 + 6 * (j + 1)) (lw_Z below #[Value.ref b] s) (F0 m 1764 ls [])) : W p l e room_1 s m #[Value.ref b] below meth c H locs (60 + j) (5141 + 6 * j) (lw_Z below #[Value.ref b] s) (F0 m 464 ls []) := by
  obtain ⟨hx, hb, hr, hml, hown, hts0, hX, hbl, hlocks, hgv⟩ := id C0
  have hts : ∀ w ∈ Wall, w.before #[Value.ref b] s = true := fun w h => hts0 w (wall_tbl w h)
  have hA : ∀ q : Nat, s.heap.size ≤ q → (fun q : Nat => s.heap.size ≤ q) q := fun _ h => h
  have hbA : ¬ (fun q : Nat => s.heap.size ≤ q) b := Nat.not_le.mpr hbl
  obtain ⟨-, hi1, hi2, hi3, hi4, hi5⟩ := hi
  rcases hsim with ⟨r, u', v', hc, hm, ht, hrel⟩ | ⟨q, u', b9, v', hq, hc, hm, ht, hrel⟩
  · refine lv_aload_n hx hb dL_law_464 rfl (lv_at hl 1 rfl) ?_
    refine lv_aload_n hx hb dL_law_465 rfl (lv_at hl 0 rfl) ?_
    refine lv_iload hx hb dL_law_466 (lv_at hl 4 rfl) ?_
    refine lv_iconst (v := 1) hx hb dL_law_468 (by decide) ?_
    refine lv_iadd hx hb dL_law_469 ?_
    refine va_sld hx hb hX hbl hbA hS hi1 dL_law_470 ?_
    refine lv_topn hp1 ?_
    refine lv_aload_n hx hb dL_law_471 rfl (lv_at hl 0 rfl) ?_
    refine lv_iload hx hb dL_law_472 (lv_at hl 4 rfl) ?_
    refine lv_iconst (v := 2) hx hb dL_law_474 (by decide) ?_
    refine lv_iadd hx hb dL_law_475 ?_
    refine va_sld hx hb hX hbl hbA hS hi2 dL_law_476 ?_
    refine lv_topn hp2 ?_
    refine lv_aload_n hx hb dL_law_477 rfl (lv_at hl 0 rfl) ?_
    refine lv_iload hx hb dL_law_478 (lv_at hl 4 rfl) ?_
    refine lv_iconst (v := 3) hx hb dL_law_480 (by decide) ?_
    refine lv_iadd hx hb dL_law_481 ?_
    refine va_sld hx hb hX hbl hbA hS hi3 dL_law_482 ?_
    refine lv_topn hp3 ?_
    refine lv_aload_n hx hb dL_law_483 rfl (lv_at hl 3 rfl) ?_
    refine cc_iSHF (As := [.ref (ad 0), .int p1, .int p2, .int p3, .ref o]) (rest := []) (wr := wM cI cZ am v) ⟨hx, hb, hml, hown, hts⟩ (k_L_detector l D cI cZ cJ ad o f u p1 p2 p3 hc) (vx_cwSW 5 hts (gwSH mw_638 mw_639 mw_47 mw_640) rfl rfl rfl (by decide +kernel) ⟨(Nat.le_of_ble_eq_true rfl), (Nat.le_of_ble_eq_true rfl)⟩) hK hP hD hS hA hZ [24, 25, 26, 27, 28, 29, 30, 31, 32, 33, 34, 35, 36, 37, 38, 39, 40, 41, 42, 43, 44, 45, 46, 47, 48, 49, 50, 51, 52, 53, 54, 55, 56, 57, 58, 59] [0, 1, 2, 3, 4, 5, 6, 7, 8, 9, 10, 11, 12, 13, 14, 15, 16, 17, 18, 19, 20, 21, 22, 23] rfl rfl (by decide) rfl (by decide) (by decide) rfl hl.1 rfl (Nat.le_of_ble_eq_true rfl) dL_law_484 ⟨by show 60 + j ≤ 1087; omega, by show 5141 + 6 * j ≤ 13351; omega⟩ (fun H locs hP hD hS => ?_)
    replace hP : va_P D vwCl (wM cI cZ am v ++ wL cI cZ cJ ad o (vp_updL f (0 : Int32).toNatClampNeg r.toInt64) u') H := hP
    replace hD : va_D (fun q : Nat => s.heap.size ≤ q) (wM cI cZ am v ++ wL cI cZ cJ ad o (vp_updL f (0 : Int32).toNatClampNeg r.toInt64) u') := hD
    refine W.widen (k := 60 + (j + 1)) (n := 5141 + 6 * (j + 1)) (by omega) (by omega) ?_
    refine lv_istore (lv' := [(5, .int 0), (0, .ref b), (1, .ref (ad 0)), (2, .ref (am 0)), (3, .ref o), (4, .int i)]) hx hb dL_law_487 hl (by decide) rfl (fun ls hl => ?_)
    refine lv_aload_n hx hb dL_law_489 rfl (lv_at hl 3 rfl) ?_
    refine lv_aload_n hx hb dL_law_490 rfl (lv_at hl 1 rfl) ?_
    refine lv_iload hx hb dL_law_491 (lv_at hl 5 rfl) ?_
    refine lv_iconst (v := 1) hx hb dL_law_493 (by decide) ?_
    refine lv_iadd hx hb dL_law_494 ?_
    refine va_sld hx hb hX hbl hbA hS hi1 dL_law_495 ?_
    refine lv_topn hp1 ?_
    refine lv_aload_n hx hb dL_law_496 rfl (lv_at hl 1 rfl) ?_
    refine lv_iload hx hb dL_law_497 (lv_at hl 5 rfl) ?_
    refine lv_iconst (v := 2) hx hb dL_law_499 (by decide) ?_
    refine lv_iadd hx hb dL_law_500 ?_
    refine va_sld hx hb hX hbl hbA hS hi2 dL_law_501 ?_
    refine lv_topn hp2 ?_
    refine lv_aload_n hx hb dL_law_502 rfl (lv_at hl 1 rfl) ?_
    refine lv_iload hx hb dL_law_503 (lv_at hl 5 rfl) ?_
    refine lv_iconst (v := 3) hx hb dL_law_505 (by decide) ?_
    refine lv_iadd hx hb dL_law_506 ?_
    refine va_sld hx hb hX hbl hbA hS hi3 dL_law_507 ?_
    refine lv_topn hp3 ?_
    refine cc_iVF (As := [.int p1, .int p2, .int p3]) (rest := []) (wr := wL cI cZ cJ ad o (vp_updL f (0 : Int32).toNatClampNeg r.toInt64) u') ⟨hx, hb, hml, hown, hts⟩ (k_X10_detector l D cI cZ am v p1 p2 p3 hm) (cwV 3 hts (gwV mw_1050 mw_1051 mw_1052 mw_59 mw_1053) rfl rfl rfl (by decide +kernel) ⟨(Nat.le_of_ble_eq_true rfl), (Nat.le_of_ble_eq_true rfl)⟩) (hK.sub [0, 1] rfl) hP hD hS hA hZ [0, 1, 2, 3, 4, 5, 6, 7, 8, 9, 10, 11, 12, 13, 14, 15, 16, 17, 18, 19, 20, 21, 22, 23] [24, 25, 26, 27, 28, 29, 30, 31, 32, 33, 34, 35, 36, 37, 38, 39, 40, 41, 42, 43, 44, 45, 46, 47, 48, 49, 50, 51, 52, 53, 54, 55, 56, 57, 58, 59] rfl rfl (by decide) rfl (by decide) (by decide) (ci := 10) (q0 := 0) rfl rfl rfl hl.1 rfl (Nat.le_of_ble_eq_true rfl) dL_law_508 ⟨by show 60 + (j + 1) ≤ 1087; omega, by show 5141 + 6 * (j + 1) ≤ 13351; omega⟩ (fun H locs hP hD hS => ?_)
    replace hP : va_P D vwCl (wM cI cZ am v' ++ wL cI cZ cJ ad o (vp_updL f (0 : Int32).toNatClampNeg r.toInt64) u') H := hP.sub [36, 37, 38, 39, 40, 41, 42, 43, 44, 45, 46, 47, 48, 49, 50, 51, 52, 53, 54, 55, 56, 57, 58, 59, 0, 1, 2, 3, 4, 5, 6, 7, 8, 9, 10, 11, 12, 13, 14, 15, 16, 17, 18, 19, 20, 21, 22, 23, 24, 25, 26, 27, 28, 29, 30, 31, 32, 33, 34, 35] rfl
    replace hD : va_D (fun q : Nat => s.heap.size ≤ q) (wM cI cZ am v' ++ wL cI cZ cJ ad o (vp_updL f (0 : Int32).toNatClampNeg r.toInt64) u') := hD.sub [36, 37, 38, 39, 40, 41, 42, 43, 44, 45, 46, 47, 48, 49, 50, 51, 52, 53, 54, 55, 56, 57, 58, 59, 0, 1, 2, 3, 4, 5, 6, 7, 8, 9, 10, 11, 12, 13, 14, 15, 16, 17, 18, 19, 20, 21, 22, 23, 24, 25, 26, 27, 28, 29, 30, 31, 32, 33, 34, 35] (by decide) rfl
    refine lv_istore (lv' := [(6, .int r), (5, .int 0), (0, .ref b), (1, .ref (ad 0)), (2, .ref (am 0)), (3, .ref o), (4, .int i)]) hx hb dL_law_511 hl (by decide) rfl (fun ls hl => ?_)
    refine lv_aload_n hx hb dL_law_513 rfl (lv_at hl 4 rfl) ?_
    refine cc_iVF (As := []) (rest := []) (wr := wL cI cZ cJ ad o (vp_updL f (0 : Int32).toNatClampNeg r.toInt64) u') ⟨hx, hb, hml, hown, hts⟩ (k_X10_thrown l D cI cZ am v' rfl) (cwV 0 hts (gwV mw_968 mw_969 mw_970 mw_59 mw_971) rfl rfl rfl (by decide +kernel) ⟨(Nat.le_of_ble_eq_true rfl), (Nat.le_of_ble_eq_true rfl)⟩) (hK.sub [0, 1] rfl) hP hD hS hA hZ [0, 1, 2, 3, 4, 5, 6, 7, 8, 9, 10, 11, 12, 13, 14, 15, 16, 17, 18, 19, 20, 21, 22, 23] [24, 25, 26, 27, 28, 29, 30, 31, 32, 33, 34, 35, 36, 37, 38, 39, 40, 41, 42, 43, 44, 45, 46, 47, 48, 49, 50, 51, 52, 53, 54, 55, 56, 57, 58, 59] rfl rfl (by decide) rfl (by decide) (by decide) (ci := 10) (q0 := 0) rfl rfl rfl hl.1 rfl (Nat.le_of_ble_eq_true rfl) dL_law_514 ⟨by show 60 + (j + 1) ≤ 1087; omega, by show 5141 + 6 * (j + 1) ≤ 13351; omega⟩ (fun H locs hP hD hS => ?_)
    replace hP : va_P D vwCl (wM cI cZ am v' ++ wL cI cZ cJ ad o (vp_updL f (0 : Int32).toNatClampNeg r.toInt64) u') H := hP.sub [36, 37, 38, 39, 40, 41, 42, 43, 44, 45, 46, 47, 48, 49, 50, 51, 52, 53, 54, 55, 56, 57, 58, 59, 0, 1, 2, 3, 4, 5, 6, 7, 8, 9, 10, 11, 12, 13, 14, 15, 16, 17, 18, 19, 20, 21, 22, 23, 24, 25, 26, 27, 28, 29, 30, 31, 32, 33, 34, 35] rfl
    replace hD : va_D (fun q : Nat => s.heap.size ≤ q) (wM cI cZ am v' ++ wL cI cZ cJ ad o (vp_updL f (0 : Int32).toNatClampNeg r.toInt64) u') := hD.sub [36, 37, 38, 39, 40, 41, 42, 43, 44, 45, 46, 47, 48, 49, 50, 51, 52, 53, 54, 55, 56, 57, 58, 59, 0, 1, 2, 3, 4, 5, 6, 7, 8, 9, 10, 11, 12, 13, 14, 15, 16, 17, 18, 19, 20, 21, 22, 23, 24, 25, 26, 27, 28, 29, 30, 31, 32, 33, 34, 35] (by decide) rfl
    refine lv_iload hx hb dL_law_517 (lv_at hl 1 rfl) ?_
    refine lv_icmp_eq (tgt := 524) hx hb dL_law_519 (by decide) (fun _ => ?_) (fun c1 => absurd ht c1)
    refine lv_iload hx hb dL_law_524 (lv_at hl 1 rfl) ?_
    refine lv_if_ne (tgt := 541) hx hb dL_law_526 (by decide) (fun c1 => absurd rfl c1) (fun _ => ?_)
    refine lv_aload_n hx hb dL_law_529 rfl (lv_at hl 5 rfl) ?_
    refine lv_iconst (v := 0) hx hb dL_law_530 (by decide) ?_
    refine va_lald (D := D) hx hb hK hP 24 2 rfl rfl (by unfold vp_in; decide) dL_law_531 ?_
    refine lv_iload hx hb dL_law_532 (lv_at hl 0 rfl) ?_
    refine lv_i2l (v := r.toInt64) hx hb dL_law_534 rfl ?_
    refine W.lcmp hx hb dL_law_535 ?_
    refine lv_if_eq (tgt := 541) hx hb dL_law_536 (by decide) (fun _ => ?_) (fun c2 => absurd (by simp [lg_cmp, vp_updL]) c2)
    refine lv_goto (tgt := 1764) hx hb dL_law_541 (by decide) ?_
    exact kk _ _ _ _ _ ls hrel hP hD hS (lv_sub hl [2, 3, 4, 5, 6] rfl)
  · rcases List.mem_cons.mp hq with rfl | hq
    · refine lv_aload_n hx hb dL_law_464 rfl (lv_at hl 1 rfl) ?_
      refine lv_aload_n hx hb dL_law_465 rfl (lv_at hl 0 rfl) ?_
      refine lv_iload hx hb dL_law_466 (lv_at hl 4 rfl) ?_
      refine lv_iconst (v := 1) hx hb dL_law_468 (by decide) ?_
      refine lv_iadd hx hb dL_law_469 ?_
      refine va_sld hx hb hX hbl hbA hS hi1 dL_law_470 ?_
      refine lv_topn hp1 ?_
      refine lv_aload_n hx hb dL_law_471 rfl (lv_at hl 0 rfl) ?_
      refine lv_iload hx hb dL_law_472 (lv_at hl 4 rfl) ?_
      refine lv_iconst (v := 2) hx hb dL_law_474 (by decide) ?_
      refine lv_iadd hx hb dL_law_475 ?_
      refine va_sld hx hb hX hbl hbA hS hi2 dL_law_476 ?_
      refine lv_topn hp2 ?_
      refine lv_aload_n hx hb dL_law_477 rfl (lv_at hl 0 rfl) ?_
      refine lv_iload hx hb dL_law_478 (lv_at hl 4 rfl) ?_
      refine lv_iconst (v := 3) hx hb dL_law_480 (by decide) ?_
      refine lv_iadd hx hb dL_law_481 ?_
      refine va_sld hx hb hX hbl hbA hS hi3 dL_law_482 ?_
      refine lv_topn hp3 ?_
      refine lv_aload_n hx hb dL_law_483 rfl (lv_at hl 3 rfl) ?_
      refine cc_iSHF (As := [.ref (ad 0), .int p1, .int p2, .int p3, .ref o]) (rest := []) (wr := wM cI cZ am v) ⟨hx, hb, hml, hown, hts⟩ (kx1_L_detector l hl0 D cI cZ cJ ad o f u p1 p2 p3 hc) (vx_cwSW 5 hts (gwSH mw_638 mw_639 mw_47 mw_640) rfl rfl rfl (by decide +kernel) ⟨(Nat.le_of_ble_eq_true rfl), (Nat.le_of_ble_eq_true rfl)⟩) hK hP hD hS hA hZ [24, 25, 26, 27, 28, 29, 30, 31, 32, 33, 34, 35, 36, 37, 38, 39, 40, 41, 42, 43, 44, 45, 46, 47, 48, 49, 50, 51, 52, 53, 54, 55, 56, 57, 58, 59] [0, 1, 2, 3, 4, 5, 6, 7, 8, 9, 10, 11, 12, 13, 14, 15, 16, 17, 18, 19, 20, 21, 22, 23] rfl rfl (by decide) rfl (by decide) (by decide) rfl hl.1 rfl (Nat.le_of_ble_eq_true rfl) dL_law_484 ⟨by show 60 + j + 1 ≤ 1087; omega, by show 5141 + 6 * j + 6 ≤ 13351; omega⟩ (fun H locs hP hD hS => ?_)
      replace hP : va_P D vwCl (wM cI cZ am v ++ wL cI cZ cJ ad o f u') H := hP
      replace hD : va_D (fun q : Nat => s.heap.size ≤ q) (wM cI cZ am v ++ wL cI cZ cJ ad o f u') := hD
      refine W.widen (k := 60 + (j + 1)) (n := 5141 + 6 * (j + 1)) (by omega) (by omega) ?_
      refine lv_istore (lv' := [(5, .int 1), (0, .ref b), (1, .ref (ad 0)), (2, .ref (am 0)), (3, .ref o), (4, .int i)]) hx hb dL_law_487 hl (by decide) rfl (fun ls hl => ?_)
      refine lv_aload_n hx hb dL_law_489 rfl (lv_at hl 3 rfl) ?_
      refine lv_aload_n hx hb dL_law_490 rfl (lv_at hl 1 rfl) ?_
      refine lv_iload hx hb dL_law_491 (lv_at hl 5 rfl) ?_
      refine lv_iconst (v := 1) hx hb dL_law_493 (by decide) ?_
      refine lv_iadd hx hb dL_law_494 ?_
      refine va_sld hx hb hX hbl hbA hS hi1 dL_law_495 ?_
      refine lv_topn hp1 ?_
      refine lv_aload_n hx hb dL_law_496 rfl (lv_at hl 1 rfl) ?_
      refine lv_iload hx hb dL_law_497 (lv_at hl 5 rfl) ?_
      refine lv_iconst (v := 2) hx hb dL_law_499 (by decide) ?_
      refine lv_iadd hx hb dL_law_500 ?_
      refine va_sld hx hb hX hbl hbA hS hi2 dL_law_501 ?_
      refine lv_topn hp2 ?_
      refine lv_aload_n hx hb dL_law_502 rfl (lv_at hl 1 rfl) ?_
      refine lv_iload hx hb dL_law_503 (lv_at hl 5 rfl) ?_
      refine lv_iconst (v := 3) hx hb dL_law_505 (by decide) ?_
      refine lv_iadd hx hb dL_law_506 ?_
      refine va_sld hx hb hX hbl hbA hS hi3 dL_law_507 ?_
      refine lv_topn hp3 ?_
      refine cc_iVF (As := [.int p1, .int p2, .int p3]) (rest := []) (wr := wL cI cZ cJ ad o f u') ⟨hx, hb, hml, hown, hts⟩ (k_X10_detector l D cI cZ am v p1 p2 p3 hm) (cwV 3 hts (gwV mw_1050 mw_1051 mw_1052 mw_59 mw_1053) rfl rfl rfl (by decide +kernel) ⟨(Nat.le_of_ble_eq_true rfl), (Nat.le_of_ble_eq_true rfl)⟩) (hK.sub [0, 1] rfl) hP hD hS hA hZ [0, 1, 2, 3, 4, 5, 6, 7, 8, 9, 10, 11, 12, 13, 14, 15, 16, 17, 18, 19, 20, 21, 22, 23] [24, 25, 26, 27, 28, 29, 30, 31, 32, 33, 34, 35, 36, 37, 38, 39, 40, 41, 42, 43, 44, 45, 46, 47, 48, 49, 50, 51, 52, 53, 54, 55, 56, 57, 58, 59] rfl rfl (by decide) rfl (by decide) (by decide) (ci := 10) (q0 := 0) rfl rfl rfl hl.1 rfl (Nat.le_of_ble_eq_true rfl) dL_law_508 ⟨by show 60 + (j + 1) ≤ 1087; omega, by show 5141 + 6 * (j + 1) ≤ 13351; omega⟩ (fun H locs hP hD hS => ?_)
      replace hP : va_P D vwCl (wM cI cZ am v' ++ wL cI cZ cJ ad o f u') H := hP.sub [36, 37, 38, 39, 40, 41, 42, 43, 44, 45, 46, 47, 48, 49, 50, 51, 52, 53, 54, 55, 56, 57, 58, 59, 0, 1, 2, 3, 4, 5, 6, 7, 8, 9, 10, 11, 12, 13, 14, 15, 16, 17, 18, 19, 20, 21, 22, 23, 24, 25, 26, 27, 28, 29, 30, 31, 32, 33, 34, 35] rfl
      replace hD : va_D (fun q : Nat => s.heap.size ≤ q) (wM cI cZ am v' ++ wL cI cZ cJ ad o f u') := hD.sub [36, 37, 38, 39, 40, 41, 42, 43, 44, 45, 46, 47, 48, 49, 50, 51, 52, 53, 54, 55, 56, 57, 58, 59, 0, 1, 2, 3, 4, 5, 6, 7, 8, 9, 10, 11, 12, 13, 14, 15, 16, 17, 18, 19, 20, 21, 22, 23, 24, 25, 26, 27, 28, 29, 30, 31, 32, 33, 34, 35] (by decide) rfl
      refine lv_istore (lv' := [(6, .int b9), (5, .int 1), (0, .ref b), (1, .ref (ad 0)), (2, .ref (am 0)), (3, .ref o), (4, .int i)]) hx hb dL_law_511 hl (by decide) rfl (fun ls hl => ?_)
      refine lv_aload_n hx hb dL_law_513 rfl (lv_at hl 4 rfl) ?_
      refine cc_iVF (As := []) (rest := []) (wr := wL cI cZ cJ ad o f u') ⟨hx, hb, hml, hown, hts⟩ (k_X10_thrown l D cI cZ am v' rfl) (cwV 0 hts (gwV mw_968 mw_969 mw_970 mw_59 mw_971) rfl rfl rfl (by decide +kernel) ⟨(Nat.le_of_ble_eq_true rfl), (Nat.le_of_ble_eq_true rfl)⟩) (hK.sub [0, 1] rfl) hP hD hS hA hZ [0, 1, 2, 3, 4, 5, 6, 7, 8, 9, 10, 11, 12, 13, 14, 15, 16, 17, 18, 19, 20, 21, 22, 23] [24, 25, 26, 27, 28, 29, 30, 31, 32, 33, 34, 35, 36, 37, 38, 39, 40, 41, 42, 43, 44, 45, 46, 47, 48, 49, 50, 51, 52, 53, 54, 55, 56, 57, 58, 59] rfl rfl (by decide) rfl (by decide) (by decide) (ci := 10) (q0 := 0) rfl rfl rfl hl.1 rfl (Nat.le_of_ble_eq_true rfl) dL_law_514 ⟨by show 60 + (j + 1) ≤ 1087; omega, by show 5141 + 6 * (j + 1) ≤ 13351; omega⟩ (fun H locs hP hD hS => ?_)
      replace hP : va_P D vwCl (wM cI cZ am v' ++ wL cI cZ cJ ad o f u') H := hP.sub [36, 37, 38, 39, 40, 41, 42, 43, 44, 45, 46, 47, 48, 49, 50, 51, 52, 53, 54, 55, 56, 57, 58, 59, 0, 1, 2, 3, 4, 5, 6, 7, 8, 9, 10, 11, 12, 13, 14, 15, 16, 17, 18, 19, 20, 21, 22, 23, 24, 25, 26, 27, 28, 29, 30, 31, 32, 33, 34, 35] rfl
      replace hD : va_D (fun q : Nat => s.heap.size ≤ q) (wM cI cZ am v' ++ wL cI cZ cJ ad o f u') := hD.sub [36, 37, 38, 39, 40, 41, 42, 43, 44, 45, 46, 47, 48, 49, 50, 51, 52, 53, 54, 55, 56, 57, 58, 59, 0, 1, 2, 3, 4, 5, 6, 7, 8, 9, 10, 11, 12, 13, 14, 15, 16, 17, 18, 19, 20, 21, 22, 23, 24, 25, 26, 27, 28, 29, 30, 31, 32, 33, 34, 35] (by decide) rfl
      refine lv_iload hx hb dL_law_517 (lv_at hl 1 rfl) ?_
      refine lv_icmp_eq (tgt := 524) hx hb dL_law_519 (by decide) (fun _ => ?_) (fun c1 => absurd ht c1)
      refine lv_iload hx hb dL_law_524 (lv_at hl 1 rfl) ?_
      refine lv_if_ne (tgt := 541) hx hb dL_law_526 (by decide) (fun _ => ?_) (fun c1 => absurd c1 (by decide))
      refine lv_goto (tgt := 1764) hx hb dL_law_541 (by decide) ?_
      exact kk _ _ _ _ _ ls hrel hP hD hS (lv_sub hl [2, 3, 4, 5, 6] rfl)
    · rcases List.mem_cons.mp hq with rfl | hq
      · refine lv_aload_n hx hb dL_law_464 rfl (lv_at hl 1 rfl) ?_
        refine lv_aload_n hx hb dL_law_465 rfl (lv_at hl 0 rfl) ?_
        refine lv_iload hx hb dL_law_466 (lv_at hl 4 rfl) ?_
        refine lv_iconst (v := 1) hx hb dL_law_468 (by decide) ?_
        refine lv_iadd hx hb dL_law_469 ?_
        refine va_sld hx hb hX hbl hbA hS hi1 dL_law_470 ?_
        refine lv_topn hp1 ?_
        refine lv_aload_n hx hb dL_law_471 rfl (lv_at hl 0 rfl) ?_
        refine lv_iload hx hb dL_law_472 (lv_at hl 4 rfl) ?_
        refine lv_iconst (v := 2) hx hb dL_law_474 (by decide) ?_
        refine lv_iadd hx hb dL_law_475 ?_
        refine va_sld hx hb hX hbl hbA hS hi2 dL_law_476 ?_
        refine lv_topn hp2 ?_
        refine lv_aload_n hx hb dL_law_477 rfl (lv_at hl 0 rfl) ?_
        refine lv_iload hx hb dL_law_478 (lv_at hl 4 rfl) ?_
        refine lv_iconst (v := 3) hx hb dL_law_480 (by decide) ?_
        refine lv_iadd hx hb dL_law_481 ?_
        refine va_sld hx hb hX hbl hbA hS hi3 dL_law_482 ?_
        refine lv_topn hp3 ?_
        refine lv_aload_n hx hb dL_law_483 rfl (lv_at hl 3 rfl) ?_
        refine cc_iSHF (As := [.ref (ad 0), .int p1, .int p2, .int p3, .ref o]) (rest := []) (wr := wM cI cZ am v) ⟨hx, hb, hml, hown, hts⟩ (kx2_L_detector l hl0 D cI cZ cJ ad o f u p1 p2 p3 hc) (vx_cwSW 5 hts (gwSH mw_638 mw_639 mw_47 mw_640) rfl rfl rfl (by decide +kernel) ⟨(Nat.le_of_ble_eq_true rfl), (Nat.le_of_ble_eq_true rfl)⟩) hK hP hD hS hA hZ [24, 25, 26, 27, 28, 29, 30, 31, 32, 33, 34, 35, 36, 37, 38, 39, 40, 41, 42, 43, 44, 45, 46, 47, 48, 49, 50, 51, 52, 53, 54, 55, 56, 57, 58, 59] [0, 1, 2, 3, 4, 5, 6, 7, 8, 9, 10, 11, 12, 13, 14, 15, 16, 17, 18, 19, 20, 21, 22, 23] rfl rfl (by decide) rfl (by decide) (by decide) rfl hl.1 rfl (Nat.le_of_ble_eq_true rfl) dL_law_484 ⟨by show 60 + j + 1 ≤ 1087; omega, by show 5141 + 6 * j + 6 ≤ 13351; omega⟩ (fun H locs hP hD hS => ?_)
        replace hP : va_P D vwCl (wM cI cZ am v ++ wL cI cZ cJ ad o f u') H := hP
        replace hD : va_D (fun q : Nat => s.heap.size ≤ q) (wM cI cZ am v ++ wL cI cZ cJ ad o f u') := hD
        refine W.widen (k := 60 + (j + 1)) (n := 5141 + 6 * (j + 1)) (by omega) (by omega) ?_
        refine lv_istore (lv' := [(5, .int 2), (0, .ref b), (1, .ref (ad 0)), (2, .ref (am 0)), (3, .ref o), (4, .int i)]) hx hb dL_law_487 hl (by decide) rfl (fun ls hl => ?_)
        refine lv_aload_n hx hb dL_law_489 rfl (lv_at hl 3 rfl) ?_
        refine lv_aload_n hx hb dL_law_490 rfl (lv_at hl 1 rfl) ?_
        refine lv_iload hx hb dL_law_491 (lv_at hl 5 rfl) ?_
        refine lv_iconst (v := 1) hx hb dL_law_493 (by decide) ?_
        refine lv_iadd hx hb dL_law_494 ?_
        refine va_sld hx hb hX hbl hbA hS hi1 dL_law_495 ?_
        refine lv_topn hp1 ?_
        refine lv_aload_n hx hb dL_law_496 rfl (lv_at hl 1 rfl) ?_
        refine lv_iload hx hb dL_law_497 (lv_at hl 5 rfl) ?_
        refine lv_iconst (v := 2) hx hb dL_law_499 (by decide) ?_
        refine lv_iadd hx hb dL_law_500 ?_
        refine va_sld hx hb hX hbl hbA hS hi2 dL_law_501 ?_
        refine lv_topn hp2 ?_
        refine lv_aload_n hx hb dL_law_502 rfl (lv_at hl 1 rfl) ?_
        refine lv_iload hx hb dL_law_503 (lv_at hl 5 rfl) ?_
        refine lv_iconst (v := 3) hx hb dL_law_505 (by decide) ?_
        refine lv_iadd hx hb dL_law_506 ?_
        refine va_sld hx hb hX hbl hbA hS hi3 dL_law_507 ?_
        refine lv_topn hp3 ?_
        refine cc_iVF (As := [.int p1, .int p2, .int p3]) (rest := []) (wr := wL cI cZ cJ ad o f u') ⟨hx, hb, hml, hown, hts⟩ (k_X10_detector l D cI cZ am v p1 p2 p3 hm) (cwV 3 hts (gwV mw_1050 mw_1051 mw_1052 mw_59 mw_1053) rfl rfl rfl (by decide +kernel) ⟨(Nat.le_of_ble_eq_true rfl), (Nat.le_of_ble_eq_true rfl)⟩) (hK.sub [0, 1] rfl) hP hD hS hA hZ [0, 1, 2, 3, 4, 5, 6, 7, 8, 9, 10, 11, 12, 13, 14, 15, 16, 17, 18, 19, 20, 21, 22, 23] [24, 25, 26, 27, 28, 29, 30, 31, 32, 33, 34, 35, 36, 37, 38, 39, 40, 41, 42, 43, 44, 45, 46, 47, 48, 49, 50, 51, 52, 53, 54, 55, 56, 57, 58, 59] rfl rfl (by decide) rfl (by decide) (by decide) (ci := 10) (q0 := 0) rfl rfl rfl hl.1 rfl (Nat.le_of_ble_eq_true rfl) dL_law_508 ⟨by show 60 + (j + 1) ≤ 1087; omega, by show 5141 + 6 * (j + 1) ≤ 13351; omega⟩ (fun H locs hP hD hS => ?_)
        replace hP : va_P D vwCl (wM cI cZ am v' ++ wL cI cZ cJ ad o f u') H := hP.sub [36, 37, 38, 39, 40, 41, 42, 43, 44, 45, 46, 47, 48, 49, 50, 51, 52, 53, 54, 55, 56, 57, 58, 59, 0, 1, 2, 3, 4, 5, 6, 7, 8, 9, 10, 11, 12, 13, 14, 15, 16, 17, 18, 19, 20, 21, 22, 23, 24, 25, 26, 27, 28, 29, 30, 31, 32, 33, 34, 35] rfl
        replace hD : va_D (fun q : Nat => s.heap.size ≤ q) (wM cI cZ am v' ++ wL cI cZ cJ ad o f u') := hD.sub [36, 37, 38, 39, 40, 41, 42, 43, 44, 45, 46, 47, 48, 49, 50, 51, 52, 53, 54, 55, 56, 57, 58, 59, 0, 1, 2, 3, 4, 5, 6, 7, 8, 9, 10, 11, 12, 13, 14, 15, 16, 17, 18, 19, 20, 21, 22, 23, 24, 25, 26, 27, 28, 29, 30, 31, 32, 33, 34, 35] (by decide) rfl
        refine lv_istore (lv' := [(6, .int b9), (5, .int 2), (0, .ref b), (1, .ref (ad 0)), (2, .ref (am 0)), (3, .ref o), (4, .int i)]) hx hb dL_law_511 hl (by decide) rfl (fun ls hl => ?_)
        refine lv_aload_n hx hb dL_law_513 rfl (lv_at hl 4 rfl) ?_
        refine cc_iVF (As := []) (rest := []) (wr := wL cI cZ cJ ad o f u') ⟨hx, hb, hml, hown, hts⟩ (k_X10_thrown l D cI cZ am v' rfl) (cwV 0 hts (gwV mw_968 mw_969 mw_970 mw_59 mw_971) rfl rfl rfl (by decide +kernel) ⟨(Nat.le_of_ble_eq_true rfl), (Nat.le_of_ble_eq_true rfl)⟩) (hK.sub [0, 1] rfl) hP hD hS hA hZ [0, 1, 2, 3, 4, 5, 6, 7, 8, 9, 10, 11, 12, 13, 14, 15, 16, 17, 18, 19, 20, 21, 22, 23] [24, 25, 26, 27, 28, 29, 30, 31, 32, 33, 34, 35, 36, 37, 38, 39, 40, 41, 42, 43, 44, 45, 46, 47, 48, 49, 50, 51, 52, 53, 54, 55, 56, 57, 58, 59] rfl rfl (by decide) rfl (by decide) (by decide) (ci := 10) (q0 := 0) rfl rfl rfl hl.1 rfl (Nat.le_of_ble_eq_true rfl) dL_law_514 ⟨by show 60 + (j + 1) ≤ 1087; omega, by show 5141 + 6 * (j + 1) ≤ 13351; omega⟩ (fun H locs hP hD hS => ?_)
        replace hP : va_P D vwCl (wM cI cZ am v' ++ wL cI cZ cJ ad o f u') H := hP.sub [36, 37, 38, 39, 40, 41, 42, 43, 44, 45, 46, 47, 48, 49, 50, 51, 52, 53, 54, 55, 56, 57, 58, 59, 0, 1, 2, 3, 4, 5, 6, 7, 8, 9, 10, 11, 12, 13, 14, 15, 16, 17, 18, 19, 20, 21, 22, 23, 24, 25, 26, 27, 28, 29, 30, 31, 32, 33, 34, 35] rfl
        replace hD : va_D (fun q : Nat => s.heap.size ≤ q) (wM cI cZ am v' ++ wL cI cZ cJ ad o f u') := hD.sub [36, 37, 38, 39, 40, 41, 42, 43, 44, 45, 46, 47, 48, 49, 50, 51, 52, 53, 54, 55, 56, 57, 58, 59, 0, 1, 2, 3, 4, 5, 6, 7, 8, 9, 10, 11, 12, 13, 14, 15, 16, 17, 18, 19, 20, 21, 22, 23, 24, 25, 26, 27, 28, 29, 30, 31, 32, 33, 34, 35] (by decide) rfl
        refine lv_iload hx hb dL_law_517 (lv_at hl 1 rfl) ?_
        refine lv_icmp_eq (tgt := 524) hx hb dL_law_519 (by decide) (fun _ => ?_) (fun c1 => absurd ht c1)
        refine lv_iload hx hb dL_law_524 (lv_at hl 1 rfl) ?_
        refine lv_if_ne (tgt := 541) hx hb dL_law_526 (by decide) (fun _ => ?_) (fun c1 => absurd c1 (by decide))
        refine lv_goto (tgt := 1764) hx hb dL_law_541 (by decide) ?_
        exact kk _ _ _ _ _ ls hrel hP hD hS (lv_sub hl [2, 3, 4, 5, 6] rfl)
      · exact absurd hq List.not_mem_nil

set_option maxHeartbeats 4000000 in
set_option maxRecDepth 100000 in
theorem lc_weather {p : Program} {l : Launch} {e : Env} {s : State} {m : MethodId} {below : List Frame} {meth : Method} {c : Code} {b L : Nat} {xs : Nat → Int32} (hl0 : l.stackTraces = false) (C0 : lw_At p s m meth c b L xs) (hZ : cst (fun q : Nat => s.heap.size ≤ q) s) {D : va_G} {cI cZ cJ : ClassId} (hK : va_K D vwCl [(cI, .int), (cZ, .boolean), (cJ, .long)] s) {Rel : GS → MS → Prop} {am ad : Nat → Nat} {o : Nat} {f : Nat → Int64} {u : GS} {v : MS} {i : Int32} {j : Nat} (hj : j ≤ 511) (hi : lin i L) {p1 : Int32} (hp1 : xs (i + 1).toNatClampNeg = p1) (hsim : SI Rel (g_X9_weather u p1) (g_X10_weather v p1) [("java/lang/IllegalArgumentException", 1)]) {H : Heap} {locs : List Loc} {ls : Array Slot} (hP : va_P D vwCl (wM cI cZ am v ++ wL cI cZ cJ ad o f u) H) (hD : va_D (fun q : Nat => s.heap.size ≤ q) (wM cI cZ am v ++ wL cI cZ cJ ad o f u)) (hS : va_S (fun q : Nat => s.heap.size ≤ q) s.heap H locs) (hl : lv_has ls 7 [(0, .ref b), (1, .ref (ad 0)), (2, .ref (am 0)), (3, .ref o), (4, .int i)]) (kk : ∀ (u' : GS) (v' : MS) (f' : Nat → Int64) (H : Heap) (locs : List Loc) (ls : Array Slot), Rel u' v' → va_P D vwCl (wM cI cZ am v' ++ wL cI cZ cJ ad o f' u') H → va_D (fun q : Nat => s.heap.size ≤ q) (wM cI cZ am v' ++ wL cI cZ cJ ad o f' u') → va_S (fun q : Nat => s.heap.size ≤ q) s.heap H locs → lv_has ls 7 [(0, .ref b), (1, .ref (ad 0)), (2, .ref (am 0)), (3, .ref o), (4, .int i)] → W p l e room_1 s m #[Value.ref b] below meth c H locs (60 + (j + 1)) (5141 + 6 * (j + 1)) (lw_Z below #[Value.ref b] s) (F0 m 1764 ls [])) : W p l e room_1 s m #[Value.ref b] below meth c H locs (60 + j) (5141 + 6 * j) (lw_Z below #[Value.ref b] s) (F0 m 544 ls []) := by
  obtain ⟨hx, hb, hr, hml, hown, hts0, hX, hbl, hlocks, hgv⟩ := id C0
  have hts : ∀ w ∈ Wall, w.before #[Value.ref b] s = true := fun w h => hts0 w (wall_tbl w h)
  have hA : ∀ q : Nat, s.heap.size ≤ q → (fun q : Nat => s.heap.size ≤ q) q := fun _ h => h
  have hbA : ¬ (fun q : Nat => s.heap.size ≤ q) b := Nat.not_le.mpr hbl
  obtain ⟨-, hi1, hi2, hi3, hi4, hi5⟩ := hi
  rcases hsim with ⟨r, u', v', hc, hm, ht, hrel⟩ | ⟨q, u', b9, v', hq, hc, hm, ht, hrel⟩
  · refine lv_aload_n hx hb dL_law_544 rfl (lv_at hl 1 rfl) ?_
    refine lv_aload_n hx hb dL_law_545 rfl (lv_at hl 0 rfl) ?_
    refine lv_iload hx hb dL_law_546 (lv_at hl 4 rfl) ?_
    refine lv_iconst (v := 1) hx hb dL_law_548 (by decide) ?_
    refine lv_iadd hx hb dL_law_549 ?_
    refine va_sld hx hb hX hbl hbA hS hi1 dL_law_550 ?_
    refine lv_topn hp1 ?_
    refine lv_aload_n hx hb dL_law_551 rfl (lv_at hl 3 rfl) ?_
    refine cc_iSHF (As := [.ref (ad 0), .int p1, .ref o]) (rest := []) (wr := wM cI cZ am v) ⟨hx, hb, hml, hown, hts⟩ (k_L_weather l D cI cZ cJ ad o f u p1 hc) (vx_cwSW 3 hts (gwSH mw_645 mw_646 mw_47 mw_647) rfl rfl rfl (by decide +kernel) ⟨(Nat.le_of_ble_eq_true rfl), (Nat.le_of_ble_eq_true rfl)⟩) hK hP hD hS hA hZ [24, 25, 26, 27, 28, 29, 30, 31, 32, 33, 34, 35, 36, 37, 38, 39, 40, 41, 42, 43, 44, 45, 46, 47, 48, 49, 50, 51, 52, 53, 54, 55, 56, 57, 58, 59] [0, 1, 2, 3, 4, 5, 6, 7, 8, 9, 10, 11, 12, 13, 14, 15, 16, 17, 18, 19, 20, 21, 22, 23] rfl rfl (by decide) rfl (by decide) (by decide) rfl hl.1 rfl (Nat.le_of_ble_eq_true rfl) dL_law_552 ⟨by show 60 + j ≤ 1087; omega, by show 5141 + 6 * j ≤ 13351; omega⟩ (fun H locs hP hD hS => ?_)
    replace hP : va_P D vwCl (wM cI cZ am v ++ wL cI cZ cJ ad o (vp_updL f (0 : Int32).toNatClampNeg r.toInt64) u') H := hP
    replace hD : va_D (fun q : Nat => s.heap.size ≤ q) (wM cI cZ am v ++ wL cI cZ cJ ad o (vp_updL f (0 : Int32).toNatClampNeg r.toInt64) u') := hD
    refine W.widen (k := 60 + (j + 1)) (n := 5141 + 6 * (j + 1)) (by omega) (by omega) ?_
    refine lv_istore (lv' := [(5, .int 0), (0, .ref b), (1, .ref (ad 0)), (2, .ref (am 0)), (3, .ref o), (4, .int i)]) hx hb dL_law_555 hl (by decide) rfl (fun ls hl => ?_)
    refine lv_aload_n hx hb dL_law_557 rfl (lv_at hl 3 rfl) ?_
    refine lv_aload_n hx hb dL_law_558 rfl (lv_at hl 1 rfl) ?_
    refine lv_iload hx hb dL_law_559 (lv_at hl 5 rfl) ?_
    refine lv_iconst (v := 1) hx hb dL_law_561 (by decide) ?_
    refine lv_iadd hx hb dL_law_562 ?_
    refine va_sld hx hb hX hbl hbA hS hi1 dL_law_563 ?_
    refine lv_topn hp1 ?_
    refine cc_iVF (As := [.int p1]) (rest := []) (wr := wL cI cZ cJ ad o (vp_updL f (0 : Int32).toNatClampNeg r.toInt64) u') ⟨hx, hb, hml, hown, hts⟩ (k_X10_weather l D cI cZ am v p1 hm) (cwV 1 hts (gwV mw_1054 mw_1055 mw_1056 mw_59 mw_1057) rfl rfl rfl (by decide +kernel) ⟨(Nat.le_of_ble_eq_true rfl), (Nat.le_of_ble_eq_true rfl)⟩) (hK.sub [0, 1] rfl) hP hD hS hA hZ [0, 1, 2, 3, 4, 5, 6, 7, 8, 9, 10, 11, 12, 13, 14, 15, 16, 17, 18, 19, 20, 21, 22, 23] [24, 25, 26, 27, 28, 29, 30, 31, 32, 33, 34, 35, 36, 37, 38, 39, 40, 41, 42, 43, 44, 45, 46, 47, 48, 49, 50, 51, 52, 53, 54, 55, 56, 57, 58, 59] rfl rfl (by decide) rfl (by decide) (by decide) (ci := 10) (q0 := 0) rfl rfl rfl hl.1 rfl (Nat.le_of_ble_eq_true rfl) dL_law_564 ⟨by show 60 + (j + 1) ≤ 1087; omega, by show 5141 + 6 * (j + 1) ≤ 13351; omega⟩ (fun H locs hP hD hS => ?_)
    replace hP : va_P D vwCl (wM cI cZ am v' ++ wL cI cZ cJ ad o (vp_updL f (0 : Int32).toNatClampNeg r.toInt64) u') H := hP.sub [36, 37, 38, 39, 40, 41, 42, 43, 44, 45, 46, 47, 48, 49, 50, 51, 52, 53, 54, 55, 56, 57, 58, 59, 0, 1, 2, 3, 4, 5, 6, 7, 8, 9, 10, 11, 12, 13, 14, 15, 16, 17, 18, 19, 20, 21, 22, 23, 24, 25, 26, 27, 28, 29, 30, 31, 32, 33, 34, 35] rfl
    replace hD : va_D (fun q : Nat => s.heap.size ≤ q) (wM cI cZ am v' ++ wL cI cZ cJ ad o (vp_updL f (0 : Int32).toNatClampNeg r.toInt64) u') := hD.sub [36, 37, 38, 39, 40, 41, 42, 43, 44, 45, 46, 47, 48, 49, 50, 51, 52, 53, 54, 55, 56, 57, 58, 59, 0, 1, 2, 3, 4, 5, 6, 7, 8, 9, 10, 11, 12, 13, 14, 15, 16, 17, 18, 19, 20, 21, 22, 23, 24, 25, 26, 27, 28, 29, 30, 31, 32, 33, 34, 35] (by decide) rfl
    refine lv_istore (lv' := [(6, .int r), (5, .int 0), (0, .ref b), (1, .ref (ad 0)), (2, .ref (am 0)), (3, .ref o), (4, .int i)]) hx hb dL_law_567 hl (by decide) rfl (fun ls hl => ?_)
    refine lv_aload_n hx hb dL_law_569 rfl (lv_at hl 4 rfl) ?_
    refine cc_iVF (As := []) (rest := []) (wr := wL cI cZ cJ ad o (vp_updL f (0 : Int32).toNatClampNeg r.toInt64) u') ⟨hx, hb, hml, hown, hts⟩ (k_X10_thrown l D cI cZ am v' rfl) (cwV 0 hts (gwV mw_968 mw_969 mw_970 mw_59 mw_971) rfl rfl rfl (by decide +kernel) ⟨(Nat.le_of_ble_eq_true rfl), (Nat.le_of_ble_eq_true rfl)⟩) (hK.sub [0, 1] rfl) hP hD hS hA hZ [0, 1, 2, 3, 4, 5, 6, 7, 8, 9, 10, 11, 12, 13, 14, 15, 16, 17, 18, 19, 20, 21, 22, 23] [24, 25, 26, 27, 28, 29, 30, 31, 32, 33, 34, 35, 36, 37, 38, 39, 40, 41, 42, 43, 44, 45, 46, 47, 48, 49, 50, 51, 52, 53, 54, 55, 56, 57, 58, 59] rfl rfl (by decide) rfl (by decide) (by decide) (ci := 10) (q0 := 0) rfl rfl rfl hl.1 rfl (Nat.le_of_ble_eq_true rfl) dL_law_570 ⟨by show 60 + (j + 1) ≤ 1087; omega, by show 5141 + 6 * (j + 1) ≤ 13351; omega⟩ (fun H locs hP hD hS => ?_)
    replace hP : va_P D vwCl (wM cI cZ am v' ++ wL cI cZ cJ ad o (vp_updL f (0 : Int32).toNatClampNeg r.toInt64) u') H := hP.sub [36, 37, 38, 39, 40, 41, 42, 43, 44, 45, 46, 47, 48, 49, 50, 51, 52, 53, 54, 55, 56, 57, 58, 59, 0, 1, 2, 3, 4, 5, 6, 7, 8, 9, 10, 11, 12, 13, 14, 15, 16, 17, 18, 19, 20, 21, 22, 23, 24, 25, 26, 27, 28, 29, 30, 31, 32, 33, 34, 35] rfl
    replace hD : va_D (fun q : Nat => s.heap.size ≤ q) (wM cI cZ am v' ++ wL cI cZ cJ ad o (vp_updL f (0 : Int32).toNatClampNeg r.toInt64) u') := hD.sub [36, 37, 38, 39, 40, 41, 42, 43, 44, 45, 46, 47, 48, 49, 50, 51, 52, 53, 54, 55, 56, 57, 58, 59, 0, 1, 2, 3, 4, 5, 6, 7, 8, 9, 10, 11, 12, 13, 14, 15, 16, 17, 18, 19, 20, 21, 22, 23, 24, 25, 26, 27, 28, 29, 30, 31, 32, 33, 34, 35] (by decide) rfl
    refine lv_iload hx hb dL_law_573 (lv_at hl 1 rfl) ?_
    refine lv_icmp_eq (tgt := 580) hx hb dL_law_575 (by decide) (fun _ => ?_) (fun c1 => absurd ht c1)
    refine lv_iload hx hb dL_law_580 (lv_at hl 1 rfl) ?_
    refine lv_if_ne (tgt := 597) hx hb dL_law_582 (by decide) (fun c1 => absurd rfl c1) (fun _ => ?_)
    refine lv_aload_n hx hb dL_law_585 rfl (lv_at hl 5 rfl) ?_
    refine lv_iconst (v := 0) hx hb dL_law_586 (by decide) ?_
    refine va_lald (D := D) hx hb hK hP 24 2 rfl rfl (by unfold vp_in; decide) dL_law_587 ?_
    refine lv_iload hx hb dL_law_588 (lv_at hl 0 rfl) ?_
    refine lv_i2l (v := r.toInt64) hx hb dL_law_590 rfl ?_
    refine W.lcmp hx hb dL_law_591 ?_
    refine lv_if_eq (tgt := 597) hx hb dL_law_592 (by decide) (fun _ => ?_) (fun c2 => absurd (by simp [lg_cmp, vp_updL]) c2)
    refine lv_goto (tgt := 1764) hx hb dL_law_597 (by decide) ?_
    exact kk _ _ _ _ _ ls hrel hP hD hS (lv_sub hl [2, 3, 4, 5, 6] rfl)
  · rcases List.mem_cons.mp hq with rfl | hq
    · refine lv_aload_n hx hb dL_law_544 rfl (lv_at hl 1 rfl) ?_
      refine lv_aload_n hx hb dL_law_545 rfl (lv_at hl 0 rfl) ?_
      refine lv_iload hx hb dL_law_546 (lv_at hl 4 rfl) ?_
      refine lv_iconst (v := 1) hx hb dL_law_548 (by decide) ?_
      refine lv_iadd hx hb dL_law_549 ?_
      refine va_sld hx hb hX hbl hbA hS hi1 dL_law_550 ?_
      refine lv_topn hp1 ?_
      refine lv_aload_n hx hb dL_law_551 rfl (lv_at hl 3 rfl) ?_
      refine cc_iSHF (As := [.ref (ad 0), .int p1, .ref o]) (rest := []) (wr := wM cI cZ am v) ⟨hx, hb, hml, hown, hts⟩ (kx1_L_weather l hl0 D cI cZ cJ ad o f u p1 hc) (vx_cwSW 3 hts (gwSH mw_645 mw_646 mw_47 mw_647) rfl rfl rfl (by decide +kernel) ⟨(Nat.le_of_ble_eq_true rfl), (Nat.le_of_ble_eq_true rfl)⟩) hK hP hD hS hA hZ [24, 25, 26, 27, 28, 29, 30, 31, 32, 33, 34, 35, 36, 37, 38, 39, 40, 41, 42, 43, 44, 45, 46, 47, 48, 49, 50, 51, 52, 53, 54, 55, 56, 57, 58, 59] [0, 1, 2, 3, 4, 5, 6, 7, 8, 9, 10, 11, 12, 13, 14, 15, 16, 17, 18, 19, 20, 21, 22, 23] rfl rfl (by decide) rfl (by decide) (by decide) rfl hl.1 rfl (Nat.le_of_ble_eq_true rfl) dL_law_552 ⟨by show 60 + j + 1 ≤ 1087; omega, by show 5141 + 6 * j + 6 ≤ 13351; omega⟩ (fun H locs hP hD hS => ?_)
      replace hP : va_P D vwCl (wM cI cZ am v ++ wL cI cZ cJ ad o f u') H := hP
      replace hD : va_D (fun q : Nat => s.heap.size ≤ q) (wM cI cZ am v ++ wL cI cZ cJ ad o f u') := hD
      refine W.widen (k := 60 + (j + 1)) (n := 5141 + 6 * (j + 1)) (by omega) (by omega) ?_
      refine lv_istore (lv' := [(5, .int 1), (0, .ref b), (1, .ref (ad 0)), (2, .ref (am 0)), (3, .ref o), (4, .int i)]) hx hb dL_law_555 hl (by decide) rfl (fun ls hl => ?_)
      refine lv_aload_n hx hb dL_law_557 rfl (lv_at hl 3 rfl) ?_
      refine lv_aload_n hx hb dL_law_558 rfl (lv_at hl 1 rfl) ?_
      refine lv_iload hx hb dL_law_559 (lv_at hl 5 rfl) ?_
      refine lv_iconst (v := 1) hx hb dL_law_561 (by decide) ?_
      refine lv_iadd hx hb dL_law_562 ?_
      refine va_sld hx hb hX hbl hbA hS hi1 dL_law_563 ?_
      refine lv_topn hp1 ?_
      refine cc_iVF (As := [.int p1]) (rest := []) (wr := wL cI cZ cJ ad o f u') ⟨hx, hb, hml, hown, hts⟩ (k_X10_weather l D cI cZ am v p1 hm) (cwV 1 hts (gwV mw_1054 mw_1055 mw_1056 mw_59 mw_1057) rfl rfl rfl (by decide +kernel) ⟨(Nat.le_of_ble_eq_true rfl), (Nat.le_of_ble_eq_true rfl)⟩) (hK.sub [0, 1] rfl) hP hD hS hA hZ [0, 1, 2, 3, 4, 5, 6, 7, 8, 9, 10, 11, 12, 13, 14, 15, 16, 17, 18, 19, 20, 21, 22, 23] [24, 25, 26, 27, 28, 29, 30, 31, 32, 33, 34, 35, 36, 37, 38, 39, 40, 41, 42, 43, 44, 45, 46, 47, 48, 49, 50, 51, 52, 53, 54, 55, 56, 57, 58, 59] rfl rfl (by decide) rfl (by decide) (by decide) (ci := 10) (q0 := 0) rfl rfl rfl hl.1 rfl (Nat.le_of_ble_eq_true rfl) dL_law_564 ⟨by show 60 + (j + 1) ≤ 1087; omega, by show 5141 + 6 * (j + 1) ≤ 13351; omega⟩ (fun H locs hP hD hS => ?_)
      replace hP : va_P D vwCl (wM cI cZ am v' ++ wL cI cZ cJ ad o f u') H := hP.sub [36, 37, 38, 39, 40, 41, 42, 43, 44, 45, 46, 47, 48, 49, 50, 51, 52, 53, 54, 55, 56, 57, 58, 59, 0, 1, 2, 3, 4, 5, 6, 7, 8, 9, 10, 11, 12, 13, 14, 15, 16, 17, 18, 19, 20, 21, 22, 23, 24, 25, 26, 27, 28, 29, 30, 31, 32, 33, 34, 35] rfl
      replace hD : va_D (fun q : Nat => s.heap.size ≤ q) (wM cI cZ am v' ++ wL cI cZ cJ ad o f u') := hD.sub [36, 37, 38, 39, 40, 41, 42, 43, 44, 45, 46, 47, 48, 49, 50, 51, 52, 53, 54, 55, 56, 57, 58, 59, 0, 1, 2, 3, 4, 5, 6, 7, 8, 9, 10, 11, 12, 13, 14, 15, 16, 17, 18, 19, 20, 21, 22, 23, 24, 25, 26, 27, 28, 29, 30, 31, 32, 33, 34, 35] (by decide) rfl
      refine lv_istore (lv' := [(6, .int b9), (5, .int 1), (0, .ref b), (1, .ref (ad 0)), (2, .ref (am 0)), (3, .ref o), (4, .int i)]) hx hb dL_law_567 hl (by decide) rfl (fun ls hl => ?_)
      refine lv_aload_n hx hb dL_law_569 rfl (lv_at hl 4 rfl) ?_
      refine cc_iVF (As := []) (rest := []) (wr := wL cI cZ cJ ad o f u') ⟨hx, hb, hml, hown, hts⟩ (k_X10_thrown l D cI cZ am v' rfl) (cwV 0 hts (gwV mw_968 mw_969 mw_970 mw_59 mw_971) rfl rfl rfl (by decide +kernel) ⟨(Nat.le_of_ble_eq_true rfl), (Nat.le_of_ble_eq_true rfl)⟩) (hK.sub [0, 1] rfl) hP hD hS hA hZ [0, 1, 2, 3, 4, 5, 6, 7, 8, 9, 10, 11, 12, 13, 14, 15, 16, 17, 18, 19, 20, 21, 22, 23] [24, 25, 26, 27, 28, 29, 30, 31, 32, 33, 34, 35, 36, 37, 38, 39, 40, 41, 42, 43, 44, 45, 46, 47, 48, 49, 50, 51, 52, 53, 54, 55, 56, 57, 58, 59] rfl rfl (by decide) rfl (by decide) (by decide) (ci := 10) (q0 := 0) rfl rfl rfl hl.1 rfl (Nat.le_of_ble_eq_true rfl) dL_law_570 ⟨by show 60 + (j + 1) ≤ 1087; omega, by show 5141 + 6 * (j + 1) ≤ 13351; omega⟩ (fun H locs hP hD hS => ?_)
      replace hP : va_P D vwCl (wM cI cZ am v' ++ wL cI cZ cJ ad o f u') H := hP.sub [36, 37, 38, 39, 40, 41, 42, 43, 44, 45, 46, 47, 48, 49, 50, 51, 52, 53, 54, 55, 56, 57, 58, 59, 0, 1, 2, 3, 4, 5, 6, 7, 8, 9, 10, 11, 12, 13, 14, 15, 16, 17, 18, 19, 20, 21, 22, 23, 24, 25, 26, 27, 28, 29, 30, 31, 32, 33, 34, 35] rfl
      replace hD : va_D (fun q : Nat => s.heap.size ≤ q) (wM cI cZ am v' ++ wL cI cZ cJ ad o f u') := hD.sub [36, 37, 38, 39, 40, 41, 42, 43, 44, 45, 46, 47, 48, 49, 50, 51, 52, 53, 54, 55, 56, 57, 58, 59, 0, 1, 2, 3, 4, 5, 6, 7, 8, 9, 10, 11, 12, 13, 14, 15, 16, 17, 18, 19, 20, 21, 22, 23, 24, 25, 26, 27, 28, 29, 30, 31, 32, 33, 34, 35] (by decide) rfl
      refine lv_iload hx hb dL_law_573 (lv_at hl 1 rfl) ?_
      refine lv_icmp_eq (tgt := 580) hx hb dL_law_575 (by decide) (fun _ => ?_) (fun c1 => absurd ht c1)
      refine lv_iload hx hb dL_law_580 (lv_at hl 1 rfl) ?_
      refine lv_if_ne (tgt := 597) hx hb dL_law_582 (by decide) (fun _ => ?_) (fun c1 => absurd c1 (by decide))
      refine lv_goto (tgt := 1764) hx hb dL_law_597 (by decide) ?_
      exact kk _ _ _ _ _ ls hrel hP hD hS (lv_sub hl [2, 3, 4, 5, 6] rfl)
    · exact absurd hq List.not_mem_nil

set_option maxHeartbeats 4000000 in
set_option maxRecDepth 100000 in
theorem lc_limit {p : Program} {l : Launch} {e : Env} {s : State} {m : MethodId} {below : List Frame} {meth : Method} {c : Code} {b L : Nat} {xs : Nat → Int32} (hl0 : l.stackTraces = false) (C0 : lw_At p s m meth c b L xs) (hZ : cst (fun q : Nat => s.heap.size ≤ q) s) {D : va_G} {cI cZ cJ : ClassId} (hK : va_K D vwCl [(cI, .int), (cZ, .boolean), (cJ, .long)] s) {Rel : GS → MS → Prop} {am ad : Nat → Nat} {o : Nat} {f : Nat → Int64} {u : GS} {v : MS} {i : Int32} {j : Nat} (hj : j ≤ 511) (hi : lin i L) {p1 : Int32} (hp1 : xs (i + 1).toNatClampNeg = p1) {p2 : Int32} (hp2 : xs (i + 2).toNatClampNeg = p2) (hsim : SI Rel (g_X9_limit u p1 p2) (g_X10_limit v p1 p2) [("java/lang/IndexOutOfBoundsException", 1), ("java/lang/IllegalArgumentException", 2)]) {H : Heap} {locs : List Loc} {ls : Array Slot} (hP : va_P D vwCl (wM cI cZ am v ++ wL cI cZ cJ ad o f u) H) (hD : va_D (fun q : Nat => s.heap.size ≤ q) (wM cI cZ am v ++ wL cI cZ cJ ad o f u)) (hS : va_S (fun q : Nat => s.heap.size ≤ q) s.heap H locs) (hl : lv_has ls 7 [(0, .ref b), (1, .ref (ad 0)), (2, .ref (am 0)), (3, .ref o), (4, .int i)]) (kk : ∀ (u' : GS) (v' : MS) (f' : Nat → Int64) (H : Heap) (locs : List Loc) (ls : Array Slot), Rel u' v' → va_P D vwCl (wM cI cZ am v' ++ wL cI cZ cJ ad o f' u') H → va_D (fun q : Nat => s.heap.size ≤ q) (wM cI cZ am v' ++ wL cI cZ cJ ad o f' u') → va_S (fun q : Nat => s.heap.size ≤ q) s.heap H locs → lv_has ls 7 [(0, .ref b), (1, .ref (ad 0)), (2, .ref (am 0)), (3, .ref o), (4, .int i)] → W p l e room_1 s m #[Value.ref b] below meth c H locs (60 + (j + 1)) (5141 + 6 * (j + 1)) (lw_Z below #[Value.ref b] s) (F0 m 1764 ls [])) : W p l e room_1 s m #[Value.ref b] below meth c H locs (60 + j) (5141 + 6 * j) (lw_Z below #[Value.ref b] s) (F0 m 600 ls []) := by
  obtain ⟨hx, hb, hr, hml, hown, hts0, hX, hbl, hlocks, hgv⟩ := id C0
  have hts : ∀ w ∈ Wall, w.before #[Value.ref b] s = true := fun w h => hts0 w (wall_tbl w h)
  have hA : ∀ q : Nat, s.heap.size ≤ q → (fun q : Nat => s.heap.size ≤ q) q := fun _ h => h
  have hbA : ¬ (fun q : Nat => s.heap.size ≤ q) b := Nat.not_le.mpr hbl
  obtain ⟨-, hi1, hi2, hi3, hi4, hi5⟩ := hi
  rcases hsim with ⟨r, u', v', hc, hm, ht, hrel⟩ | ⟨q, u', b9, v', hq, hc, hm, ht, hrel⟩
  · refine lv_aload_n hx hb dL_law_600 rfl (lv_at hl 1 rfl) ?_
    refine lv_aload_n hx hb dL_law_601 rfl (lv_at hl 0 rfl) ?_
    refine lv_iload hx hb dL_law_602 (lv_at hl 4 rfl) ?_
    refine lv_iconst (v := 1) hx hb dL_law_604 (by decide) ?_
    refine lv_iadd hx hb dL_law_605 ?_
    refine va_sld hx hb hX hbl hbA hS hi1 dL_law_606 ?_
    refine lv_topn hp1 ?_
    refine lv_aload_n hx hb dL_law_607 rfl (lv_at hl 0 rfl) ?_
    refine lv_iload hx hb dL_law_608 (lv_at hl 4 rfl) ?_
    refine lv_iconst (v := 2) hx hb dL_law_610 (by decide) ?_
    refine lv_iadd hx hb dL_law_611 ?_
    refine va_sld hx hb hX hbl hbA hS hi2 dL_law_612 ?_
    refine lv_topn hp2 ?_
    refine lv_aload_n hx hb dL_law_613 rfl (lv_at hl 3 rfl) ?_
    refine cc_iSHF (As := [.ref (ad 0), .int p1, .int p2, .ref o]) (rest := []) (wr := wM cI cZ am v) ⟨hx, hb, hml, hown, hts⟩ (k_L_limit l D cI cZ cJ ad o f u p1 p2 hc) (vx_cwSW 4 hts (gwSH mw_652 mw_653 mw_47 mw_654) rfl rfl rfl (by decide +kernel) ⟨(Nat.le_of_ble_eq_true rfl), (Nat.le_of_ble_eq_true rfl)⟩) hK hP hD hS hA hZ [24, 25, 26, 27, 28, 29, 30, 31, 32, 33, 34, 35, 36, 37, 38, 39, 40, 41, 42, 43, 44, 45, 46, 47, 48, 49, 50, 51, 52, 53, 54, 55, 56, 57, 58, 59] [0, 1, 2, 3, 4, 5, 6, 7, 8, 9, 10, 11, 12, 13, 14, 15, 16, 17, 18, 19, 20, 21, 22, 23] rfl rfl (by decide) rfl (by decide) (by decide) rfl hl.1 rfl (Nat.le_of_ble_eq_true rfl) dL_law_614 ⟨by show 60 + j ≤ 1087; omega, by show 5141 + 6 * j ≤ 13351; omega⟩ (fun H locs hP hD hS => ?_)
    replace hP : va_P D vwCl (wM cI cZ am v ++ wL cI cZ cJ ad o (vp_updL f (0 : Int32).toNatClampNeg r.toInt64) u') H := hP
    replace hD : va_D (fun q : Nat => s.heap.size ≤ q) (wM cI cZ am v ++ wL cI cZ cJ ad o (vp_updL f (0 : Int32).toNatClampNeg r.toInt64) u') := hD
    refine W.widen (k := 60 + (j + 1)) (n := 5141 + 6 * (j + 1)) (by omega) (by omega) ?_
    refine lv_istore (lv' := [(5, .int 0), (0, .ref b), (1, .ref (ad 0)), (2, .ref (am 0)), (3, .ref o), (4, .int i)]) hx hb dL_law_617 hl (by decide) rfl (fun ls hl => ?_)
    refine lv_aload_n hx hb dL_law_619 rfl (lv_at hl 3 rfl) ?_
    refine lv_aload_n hx hb dL_law_620 rfl (lv_at hl 1 rfl) ?_
    refine lv_iload hx hb dL_law_621 (lv_at hl 5 rfl) ?_
    refine lv_iconst (v := 1) hx hb dL_law_623 (by decide) ?_
    refine lv_iadd hx hb dL_law_624 ?_
    refine va_sld hx hb hX hbl hbA hS hi1 dL_law_625 ?_
    refine lv_topn hp1 ?_
    refine lv_aload_n hx hb dL_law_626 rfl (lv_at hl 1 rfl) ?_
    refine lv_iload hx hb dL_law_627 (lv_at hl 5 rfl) ?_
    refine lv_iconst (v := 2) hx hb dL_law_629 (by decide) ?_
    refine lv_iadd hx hb dL_law_630 ?_
    refine va_sld hx hb hX hbl hbA hS hi2 dL_law_631 ?_
    refine lv_topn hp2 ?_
    refine cc_iVF (As := [.int p1, .int p2]) (rest := []) (wr := wL cI cZ cJ ad o (vp_updL f (0 : Int32).toNatClampNeg r.toInt64) u') ⟨hx, hb, hml, hown, hts⟩ (k_X10_limit l D cI cZ am v p1 p2 hm) (cwV 2 hts (gwV mw_1058 mw_1059 mw_1060 mw_59 mw_1061) rfl rfl rfl (by decide +kernel) ⟨(Nat.le_of_ble_eq_true rfl), (Nat.le_of_ble_eq_true rfl)⟩) (hK.sub [0, 1] rfl) hP hD hS hA hZ [0, 1, 2, 3, 4, 5, 6, 7, 8, 9, 10, 11, 12, 13, 14, 15, 16, 17, 18, 19, 20, 21, 22, 23] [24, 25, 26, 27, 28, 29, 30, 31, 32, 33, 34, 35, 36, 37, 38, 39, 40, 41, 42, 43, 44, 45, 46, 47, 48, 49, 50, 51, 52, 53, 54, 55, 56, 57, 58, 59] rfl rfl (by decide) rfl (by decide) (by decide) (ci := 10) (q0 := 0) rfl rfl rfl hl.1 rfl (Nat.le_of_ble_eq_true rfl) dL_law_632 ⟨by show 60 + (j + 1) ≤ 1087; omega, by show 5141 + 6 * (j + 1) ≤ 13351; omega⟩ (fun H locs hP hD hS => ?_)
    replace hP : va_P D vwCl (wM cI cZ am v' ++ wL cI cZ cJ ad o (vp_updL f (0 : Int32).toNatClampNeg r.toInt64) u') H := hP.sub [36, 37, 38, 39, 40, 41, 42, 43, 44, 45, 46, 47, 48, 49, 50, 51, 52, 53, 54, 55, 56, 57, 58, 59, 0, 1, 2, 3, 4, 5, 6, 7, 8, 9, 10, 11, 12, 13, 14, 15, 16, 17, 18, 19, 20, 21, 22, 23, 24, 25, 26, 27, 28, 29, 30, 31, 32, 33, 34, 35] rfl
    replace hD : va_D (fun q : Nat => s.heap.size ≤ q) (wM cI cZ am v' ++ wL cI cZ cJ ad o (vp_updL f (0 : Int32).toNatClampNeg r.toInt64) u') := hD.sub [36, 37, 38, 39, 40, 41, 42, 43, 44, 45, 46, 47, 48, 49, 50, 51, 52, 53, 54, 55, 56, 57, 58, 59, 0, 1, 2, 3, 4, 5, 6, 7, 8, 9, 10, 11, 12, 13, 14, 15, 16, 17, 18, 19, 20, 21, 22, 23, 24, 25, 26, 27, 28, 29, 30, 31, 32, 33, 34, 35] (by decide) rfl
    refine lv_istore (lv' := [(6, .int r), (5, .int 0), (0, .ref b), (1, .ref (ad 0)), (2, .ref (am 0)), (3, .ref o), (4, .int i)]) hx hb dL_law_635 hl (by decide) rfl (fun ls hl => ?_)
    refine lv_aload_n hx hb dL_law_637 rfl (lv_at hl 4 rfl) ?_
    refine cc_iVF (As := []) (rest := []) (wr := wL cI cZ cJ ad o (vp_updL f (0 : Int32).toNatClampNeg r.toInt64) u') ⟨hx, hb, hml, hown, hts⟩ (k_X10_thrown l D cI cZ am v' rfl) (cwV 0 hts (gwV mw_968 mw_969 mw_970 mw_59 mw_971) rfl rfl rfl (by decide +kernel) ⟨(Nat.le_of_ble_eq_true rfl), (Nat.le_of_ble_eq_true rfl)⟩) (hK.sub [0, 1] rfl) hP hD hS hA hZ [0, 1, 2, 3, 4, 5, 6, 7, 8, 9, 10, 11, 12, 13, 14, 15, 16, 17, 18, 19, 20, 21, 22, 23] [24, 25, 26, 27, 28, 29, 30, 31, 32, 33, 34, 35, 36, 37, 38, 39, 40, 41, 42, 43, 44, 45, 46, 47, 48, 49, 50, 51, 52, 53, 54, 55, 56, 57, 58, 59] rfl rfl (by decide) rfl (by decide) (by decide) (ci := 10) (q0 := 0) rfl rfl rfl hl.1 rfl (Nat.le_of_ble_eq_true rfl) dL_law_638 ⟨by show 60 + (j + 1) ≤ 1087; omega, by show 5141 + 6 * (j + 1) ≤ 13351; omega⟩ (fun H locs hP hD hS => ?_)
    replace hP : va_P D vwCl (wM cI cZ am v' ++ wL cI cZ cJ ad o (vp_updL f (0 : Int32).toNatClampNeg r.toInt64) u') H := hP.sub [36, 37, 38, 39, 40, 41, 42, 43, 44, 45, 46, 47, 48, 49, 50, 51, 52, 53, 54, 55, 56, 57, 58, 59, 0, 1, 2, 3, 4, 5, 6, 7, 8, 9, 10, 11, 12, 13, 14, 15, 16, 17, 18, 19, 20, 21, 22, 23, 24, 25, 26, 27, 28, 29, 30, 31, 32, 33, 34, 35] rfl
    replace hD : va_D (fun q : Nat => s.heap.size ≤ q) (wM cI cZ am v' ++ wL cI cZ cJ ad o (vp_updL f (0 : Int32).toNatClampNeg r.toInt64) u') := hD.sub [36, 37, 38, 39, 40, 41, 42, 43, 44, 45, 46, 47, 48, 49, 50, 51, 52, 53, 54, 55, 56, 57, 58, 59, 0, 1, 2, 3, 4, 5, 6, 7, 8, 9, 10, 11, 12, 13, 14, 15, 16, 17, 18, 19, 20, 21, 22, 23, 24, 25, 26, 27, 28, 29, 30, 31, 32, 33, 34, 35] (by decide) rfl
    refine lv_iload hx hb dL_law_641 (lv_at hl 1 rfl) ?_
    refine lv_icmp_eq (tgt := 648) hx hb dL_law_643 (by decide) (fun _ => ?_) (fun c1 => absurd ht c1)
    refine lv_iload hx hb dL_law_648 (lv_at hl 1 rfl) ?_
    refine lv_if_ne (tgt := 665) hx hb dL_law_650 (by decide) (fun c1 => absurd rfl c1) (fun _ => ?_)
    refine lv_aload_n hx hb dL_law_653 rfl (lv_at hl 5 rfl) ?_
    refine lv_iconst (v := 0) hx hb dL_law_654 (by decide) ?_
    refine va_lald (D := D) hx hb hK hP 24 2 rfl rfl (by unfold vp_in; decide) dL_law_655 ?_
    refine lv_iload hx hb dL_law_656 (lv_at hl 0 rfl) ?_
    refine lv_i2l (v := r.toInt64) hx hb dL_law_658 rfl ?_
    refine W.lcmp hx hb dL_law_659 ?_
    refine lv_if_eq (tgt := 665) hx hb dL_law_660 (by decide) (fun _ => ?_) (fun c2 => absurd (by simp [lg_cmp, vp_updL]) c2)
    refine lv_goto (tgt := 1764) hx hb dL_law_665 (by decide) ?_
    exact kk _ _ _ _ _ ls hrel hP hD hS (lv_sub hl [2, 3, 4, 5, 6] rfl)
  · rcases List.mem_cons.mp hq with rfl | hq
    · refine lv_aload_n hx hb dL_law_600 rfl (lv_at hl 1 rfl) ?_
      refine lv_aload_n hx hb dL_law_601 rfl (lv_at hl 0 rfl) ?_
      refine lv_iload hx hb dL_law_602 (lv_at hl 4 rfl) ?_
      refine lv_iconst (v := 1) hx hb dL_law_604 (by decide) ?_
      refine lv_iadd hx hb dL_law_605 ?_
      refine va_sld hx hb hX hbl hbA hS hi1 dL_law_606 ?_
      refine lv_topn hp1 ?_
      refine lv_aload_n hx hb dL_law_607 rfl (lv_at hl 0 rfl) ?_
      refine lv_iload hx hb dL_law_608 (lv_at hl 4 rfl) ?_
      refine lv_iconst (v := 2) hx hb dL_law_610 (by decide) ?_
      refine lv_iadd hx hb dL_law_611 ?_
      refine va_sld hx hb hX hbl hbA hS hi2 dL_law_612 ?_
      refine lv_topn hp2 ?_
      refine lv_aload_n hx hb dL_law_613 rfl (lv_at hl 3 rfl) ?_
      refine cc_iSHF (As := [.ref (ad 0), .int p1, .int p2, .ref o]) (rest := []) (wr := wM cI cZ am v) ⟨hx, hb, hml, hown, hts⟩ (kx1_L_limit l hl0 D cI cZ cJ ad o f u p1 p2 hc) (vx_cwSW 4 hts (gwSH mw_652 mw_653 mw_47 mw_654) rfl rfl rfl (by decide +kernel) ⟨(Nat.le_of_ble_eq_true rfl), (Nat.le_of_ble_eq_true rfl)⟩) hK hP hD hS hA hZ [24, 25, 26, 27, 28, 29, 30, 31, 32, 33, 34, 35, 36, 37, 38, 39, 40, 41, 42, 43, 44, 45, 46, 47, 48, 49, 50, 51, 52, 53, 54, 55, 56, 57, 58, 59] [0, 1, 2, 3, 4, 5, 6, 7, 8, 9, 10, 11, 12, 13, 14, 15, 16, 17, 18, 19, 20, 21, 22, 23] rfl rfl (by decide) rfl (by decide) (by decide) rfl hl.1 rfl (Nat.le_of_ble_eq_true rfl) dL_law_614 ⟨by show 60 + j + 1 ≤ 1087; omega, by show 5141 + 6 * j + 6 ≤ 13351; omega⟩ (fun H locs hP hD hS => ?_)
      replace hP : va_P D vwCl (wM cI cZ am v ++ wL cI cZ cJ ad o f u') H := hP
      replace hD : va_D (fun q : Nat => s.heap.size ≤ q) (wM cI cZ am v ++ wL cI cZ cJ ad o f u') := hD
      refine W.widen (k := 60 + (j + 1)) (n := 5141 + 6 * (j + 1)) (by omega) (by omega) ?_
      refine lv_istore (lv' := [(5, .int 1), (0, .ref b), (1, .ref (ad 0)), (2, .ref (am 0)), (3, .ref o), (4, .int i)]) hx hb dL_law_617 hl (by decide) rfl (fun ls hl => ?_)
      refine lv_aload_n hx hb dL_law_619 rfl (lv_at hl 3 rfl) ?_
      refine lv_aload_n hx hb dL_law_620 rfl (lv_at hl 1 rfl) ?_
      refine lv_iload hx hb dL_law_621 (lv_at hl 5 rfl) ?_
      refine lv_iconst (v := 1) hx hb dL_law_623 (by decide) ?_
      refine lv_iadd hx hb dL_law_624 ?_
      refine va_sld hx hb hX hbl hbA hS hi1 dL_law_625 ?_
      refine lv_topn hp1 ?_
      refine lv_aload_n hx hb dL_law_626 rfl (lv_at hl 1 rfl) ?_
      refine lv_iload hx hb dL_law_627 (lv_at hl 5 rfl) ?_
      refine lv_iconst (v := 2) hx hb dL_law_629 (by decide) ?_
      refine lv_iadd hx hb dL_law_630 ?_
      refine va_sld hx hb hX hbl hbA hS hi2 dL_law_631 ?_
      refine lv_topn hp2 ?_
      refine cc_iVF (As := [.int p1, .int p2]) (rest := []) (wr := wL cI cZ cJ ad o f u') ⟨hx, hb, hml, hown, hts⟩ (k_X10_limit l D cI cZ am v p1 p2 hm) (cwV 2 hts (gwV mw_1058 mw_1059 mw_1060 mw_59 mw_1061) rfl rfl rfl (by decide +kernel) ⟨(Nat.le_of_ble_eq_true rfl), (Nat.le_of_ble_eq_true rfl)⟩) (hK.sub [0, 1] rfl) hP hD hS hA hZ [0, 1, 2, 3, 4, 5, 6, 7, 8, 9, 10, 11, 12, 13, 14, 15, 16, 17, 18, 19, 20, 21, 22, 23] [24, 25, 26, 27, 28, 29, 30, 31, 32, 33, 34, 35, 36, 37, 38, 39, 40, 41, 42, 43, 44, 45, 46, 47, 48, 49, 50, 51, 52, 53, 54, 55, 56, 57, 58, 59] rfl rfl (by decide) rfl (by decide) (by decide) (ci := 10) (q0 := 0) rfl rfl rfl hl.1 rfl (Nat.le_of_ble_eq_true rfl) dL_law_632 ⟨by show 60 + (j + 1) ≤ 1087; omega, by show 5141 + 6 * (j + 1) ≤ 13351; omega⟩ (fun H locs hP hD hS => ?_)
      replace hP : va_P D vwCl (wM cI cZ am v' ++ wL cI cZ cJ ad o f u') H := hP.sub [36, 37, 38, 39, 40, 41, 42, 43, 44, 45, 46, 47, 48, 49, 50, 51, 52, 53, 54, 55, 56, 57, 58, 59, 0, 1, 2, 3, 4, 5, 6, 7, 8, 9, 10, 11, 12, 13, 14, 15, 16, 17, 18, 19, 20, 21, 22, 23, 24, 25, 26, 27, 28, 29, 30, 31, 32, 33, 34, 35] rfl
      replace hD : va_D (fun q : Nat => s.heap.size ≤ q) (wM cI cZ am v' ++ wL cI cZ cJ ad o f u') := hD.sub [36, 37, 38, 39, 40, 41, 42, 43, 44, 45, 46, 47, 48, 49, 50, 51, 52, 53, 54, 55, 56, 57, 58, 59, 0, 1, 2, 3, 4, 5, 6, 7, 8, 9, 10, 11, 12, 13, 14, 15, 16, 17, 18, 19, 20, 21, 22, 23, 24, 25, 26, 27, 28, 29, 30, 31, 32, 33, 34, 35] (by decide) rfl
      refine lv_istore (lv' := [(6, .int b9), (5, .int 1), (0, .ref b), (1, .ref (ad 0)), (2, .ref (am 0)), (3, .ref o), (4, .int i)]) hx hb dL_law_635 hl (by decide) rfl (fun ls hl => ?_)
      refine lv_aload_n hx hb dL_law_637 rfl (lv_at hl 4 rfl) ?_
      refine cc_iVF (As := []) (rest := []) (wr := wL cI cZ cJ ad o f u') ⟨hx, hb, hml, hown, hts⟩ (k_X10_thrown l D cI cZ am v' rfl) (cwV 0 hts (gwV mw_968 mw_969 mw_970 mw_59 mw_971) rfl rfl rfl (by decide +kernel) ⟨(Nat.le_of_ble_eq_true rfl), (Nat.le_of_ble_eq_true rfl)⟩) (hK.sub [0, 1] rfl) hP hD hS hA hZ [0, 1, 2, 3, 4, 5, 6, 7, 8, 9, 10, 11, 12, 13, 14, 15, 16, 17, 18, 19, 20, 21, 22, 23] [24, 25, 26, 27, 28, 29, 30, 31, 32, 33, 34, 35, 36, 37, 38, 39, 40, 41, 42, 43, 44, 45, 46, 47, 48, 49, 50, 51, 52, 53, 54, 55, 56, 57, 58, 59] rfl rfl (by decide) rfl (by decide) (by decide) (ci := 10) (q0 := 0) rfl rfl rfl hl.1 rfl (Nat.le_of_ble_eq_true rfl) dL_law_638 ⟨by show 60 + (j + 1) ≤ 1087; omega, by show 5141 + 6 * (j + 1) ≤ 13351; omega⟩ (fun H locs hP hD hS => ?_)
      replace hP : va_P D vwCl (wM cI cZ am v' ++ wL cI cZ cJ ad o f u') H := hP.sub [36, 37, 38, 39, 40, 41, 42, 43, 44, 45, 46, 47, 48, 49, 50, 51, 52, 53, 54, 55, 56, 57, 58, 59, 0, 1, 2, 3, 4, 5, 6, 7, 8, 9, 10, 11, 12, 13, 14, 15, 16, 17, 18, 19, 20, 21, 22, 23, 24, 25, 26, 27, 28, 29, 30, 31, 32, 33, 34, 35] rfl
      replace hD : va_D (fun q : Nat => s.heap.size ≤ q) (wM cI cZ am v' ++ wL cI cZ cJ ad o f u') := hD.sub [36, 37, 38, 39, 40, 41, 42, 43, 44, 45, 46, 47, 48, 49, 50, 51, 52, 53, 54, 55, 56, 57, 58, 59, 0, 1, 2, 3, 4, 5, 6, 7, 8, 9, 10, 11, 12, 13, 14, 15, 16, 17, 18, 19, 20, 21, 22, 23, 24, 25, 26, 27, 28, 29, 30, 31, 32, 33, 34, 35] (by decide) rfl
      refine lv_iload hx hb dL_law_641 (lv_at hl 1 rfl) ?_
      refine lv_icmp_eq (tgt := 648) hx hb dL_law_643 (by decide) (fun _ => ?_) (fun c1 => absurd ht c1)
      refine lv_iload hx hb dL_law_648 (lv_at hl 1 rfl) ?_
      refine lv_if_ne (tgt := 665) hx hb dL_law_650 (by decide) (fun _ => ?_) (fun c1 => absurd c1 (by decide))
      refine lv_goto (tgt := 1764) hx hb dL_law_665 (by decide) ?_
      exact kk _ _ _ _ _ ls hrel hP hD hS (lv_sub hl [2, 3, 4, 5, 6] rfl)
    · rcases List.mem_cons.mp hq with rfl | hq
      · refine lv_aload_n hx hb dL_law_600 rfl (lv_at hl 1 rfl) ?_
        refine lv_aload_n hx hb dL_law_601 rfl (lv_at hl 0 rfl) ?_
        refine lv_iload hx hb dL_law_602 (lv_at hl 4 rfl) ?_
        refine lv_iconst (v := 1) hx hb dL_law_604 (by decide) ?_
        refine lv_iadd hx hb dL_law_605 ?_
        refine va_sld hx hb hX hbl hbA hS hi1 dL_law_606 ?_
        refine lv_topn hp1 ?_
        refine lv_aload_n hx hb dL_law_607 rfl (lv_at hl 0 rfl) ?_
        refine lv_iload hx hb dL_law_608 (lv_at hl 4 rfl) ?_
        refine lv_iconst (v := 2) hx hb dL_law_610 (by decide) ?_
        refine lv_iadd hx hb dL_law_611 ?_
        refine va_sld hx hb hX hbl hbA hS hi2 dL_law_612 ?_
        refine lv_topn hp2 ?_
        refine lv_aload_n hx hb dL_law_613 rfl (lv_at hl 3 rfl) ?_
        refine cc_iSHF (As := [.ref (ad 0), .int p1, .int p2, .ref o]) (rest := []) (wr := wM cI cZ am v) ⟨hx, hb, hml, hown, hts⟩ (kx2_L_limit l hl0 D cI cZ cJ ad o f u p1 p2 hc) (vx_cwSW 4 hts (gwSH mw_652 mw_653 mw_47 mw_654) rfl rfl rfl (by decide +kernel) ⟨(Nat.le_of_ble_eq_true rfl), (Nat.le_of_ble_eq_true rfl)⟩) hK hP hD hS hA hZ [24, 25, 26, 27, 28, 29, 30, 31, 32, 33, 34, 35, 36, 37, 38, 39, 40, 41, 42, 43, 44, 45, 46, 47, 48, 49, 50, 51, 52, 53, 54, 55, 56, 57, 58, 59] [0, 1, 2, 3, 4, 5, 6, 7, 8, 9, 10, 11, 12, 13, 14, 15, 16, 17, 18, 19, 20, 21, 22, 23] rfl rfl (by decide) rfl (by decide) (by decide) rfl hl.1 rfl (Nat.le_of_ble_eq_true rfl) dL_law_614 ⟨by show 60 + j + 1 ≤ 1087; omega, by show 5141 + 6 * j + 6 ≤ 13351; omega⟩ (fun H locs hP hD hS => ?_)
        replace hP : va_P D vwCl (wM cI cZ am v ++ wL cI cZ cJ ad o f u') H := hP
        replace hD : va_D (fun q : Nat => s.heap.size ≤ q) (wM cI cZ am v ++ wL cI cZ cJ ad o f u') := hD
        refine W.widen (k := 60 + (j + 1)) (n := 5141 + 6 * (j + 1)) (by omega) (by omega) ?_
        refine lv_istore (lv' := [(5, .int 2), (0, .ref b), (1, .ref (ad 0)), (2, .ref (am 0)), (3, .ref o), (4, .int i)]) hx hb dL_law_617 hl (by decide) rfl (fun ls hl => ?_)
        refine lv_aload_n hx hb dL_law_619 rfl (lv_at hl 3 rfl) ?_
        refine lv_aload_n hx hb dL_law_620 rfl (lv_at hl 1 rfl) ?_
        refine lv_iload hx hb dL_law_621 (lv_at hl 5 rfl) ?_
        refine lv_iconst (v := 1) hx hb dL_law_623 (by decide) ?_
        refine lv_iadd hx hb dL_law_624 ?_
        refine va_sld hx hb hX hbl hbA hS hi1 dL_law_625 ?_
        refine lv_topn hp1 ?_
        refine lv_aload_n hx hb dL_law_626 rfl (lv_at hl 1 rfl) ?_
        refine lv_iload hx hb dL_law_627 (lv_at hl 5 rfl) ?_
        refine lv_iconst (v := 2) hx hb dL_law_629 (by decide) ?_
        refine lv_iadd hx hb dL_law_630 ?_
        refine va_sld hx hb hX hbl hbA hS hi2 dL_law_631 ?_
        refine lv_topn hp2 ?_
        refine cc_iVF (As := [.int p1, .int p2]) (rest := []) (wr := wL cI cZ cJ ad o f u') ⟨hx, hb, hml, hown, hts⟩ (k_X10_limit l D cI cZ am v p1 p2 hm) (cwV 2 hts (gwV mw_1058 mw_1059 mw_1060 mw_59 mw_1061) rfl rfl rfl (by decide +kernel) ⟨(Nat.le_of_ble_eq_true rfl), (Nat.le_of_ble_eq_true rfl)⟩) (hK.sub [0, 1] rfl) hP hD hS hA hZ [0, 1, 2, 3, 4, 5, 6, 7, 8, 9, 10, 11, 12, 13, 14, 15, 16, 17, 18, 19, 20, 21, 22, 23] [24, 25, 26, 27, 28, 29, 30, 31, 32, 33, 34, 35, 36, 37, 38, 39, 40, 41, 42, 43, 44, 45, 46, 47, 48, 49, 50, 51, 52, 53, 54, 55, 56, 57, 58, 59] rfl rfl (by decide) rfl (by decide) (by decide) (ci := 10) (q0 := 0) rfl rfl rfl hl.1 rfl (Nat.le_of_ble_eq_true rfl) dL_law_632 ⟨by show 60 + (j + 1) ≤ 1087; omega, by show 5141 + 6 * (j + 1) ≤ 13351; omega⟩ (fun H locs hP hD hS => ?_)
        replace hP : va_P D vwCl (wM cI cZ am v' ++ wL cI cZ cJ ad o f u') H := hP.sub [36, 37, 38, 39, 40, 41, 42, 43, 44, 45, 46, 47, 48, 49, 50, 51, 52, 53, 54, 55, 56, 57, 58, 59, 0, 1, 2, 3, 4, 5, 6, 7, 8, 9, 10, 11, 12, 13, 14, 15, 16, 17, 18, 19, 20, 21, 22, 23, 24, 25, 26, 27, 28, 29, 30, 31, 32, 33, 34, 35] rfl
        replace hD : va_D (fun q : Nat => s.heap.size ≤ q) (wM cI cZ am v' ++ wL cI cZ cJ ad o f u') := hD.sub [36, 37, 38, 39, 40, 41, 42, 43, 44, 45, 46, 47, 48, 49, 50, 51, 52, 53, 54, 55, 56, 57, 58, 59, 0, 1, 2, 3, 4, 5, 6, 7, 8, 9, 10, 11, 12, 13, 14, 15, 16, 17, 18, 19, 20, 21, 22, 23, 24, 25, 26, 27, 28, 29, 30, 31, 32, 33, 34, 35] (by decide) rfl
        refine lv_istore (lv' := [(6, .int b9), (5, .int 2), (0, .ref b), (1, .ref (ad 0)), (2, .ref (am 0)), (3, .ref o), (4, .int i)]) hx hb dL_law_635 hl (by decide) rfl (fun ls hl => ?_)
        refine lv_aload_n hx hb dL_law_637 rfl (lv_at hl 4 rfl) ?_
        refine cc_iVF (As := []) (rest := []) (wr := wL cI cZ cJ ad o f u') ⟨hx, hb, hml, hown, hts⟩ (k_X10_thrown l D cI cZ am v' rfl) (cwV 0 hts (gwV mw_968 mw_969 mw_970 mw_59 mw_971) rfl rfl rfl (by decide +kernel) ⟨(Nat.le_of_ble_eq_true rfl), (Nat.le_of_ble_eq_true rfl)⟩) (hK.sub [0, 1] rfl) hP hD hS hA hZ [0, 1, 2, 3, 4, 5, 6, 7, 8, 9, 10, 11, 12, 13, 14, 15, 16, 17, 18, 19, 20, 21, 22, 23] [24, 25, 26, 27, 28, 29, 30, 31, 32, 33, 34, 35, 36, 37, 38, 39, 40, 41, 42, 43, 44, 45, 46, 47, 48, 49, 50, 51, 52, 53, 54, 55, 56, 57, 58, 59] rfl rfl (by decide) rfl (by decide) (by decide) (ci := 10) (q0 := 0) rfl rfl rfl hl.1 rfl (Nat.le_of_ble_eq_true rfl) dL_law_638 ⟨by show 60 + (j + 1) ≤ 1087; omega, by show 5141 + 6 * (j + 1) ≤ 13351; omega⟩ (fun H locs hP hD hS => ?_)
        replace hP : va_P D vwCl (wM cI cZ am v' ++ wL cI cZ cJ ad o f u') H := hP.sub [36, 37, 38, 39, 40, 41, 42, 43, 44, 45, 46, 47, 48, 49, 50, 51, 52, 53, 54, 55, 56, 57, 58, 59, 0, 1, 2, 3, 4, 5, 6, 7, 8, 9, 10, 11, 12, 13, 14, 15, 16, 17, 18, 19, 20, 21, 22, 23, 24, 25, 26, 27, 28, 29, 30, 31, 32, 33, 34, 35] rfl
        replace hD : va_D (fun q : Nat => s.heap.size ≤ q) (wM cI cZ am v' ++ wL cI cZ cJ ad o f u') := hD.sub [36, 37, 38, 39, 40, 41, 42, 43, 44, 45, 46, 47, 48, 49, 50, 51, 52, 53, 54, 55, 56, 57, 58, 59, 0, 1, 2, 3, 4, 5, 6, 7, 8, 9, 10, 11, 12, 13, 14, 15, 16, 17, 18, 19, 20, 21, 22, 23, 24, 25, 26, 27, 28, 29, 30, 31, 32, 33, 34, 35] (by decide) rfl
        refine lv_iload hx hb dL_law_641 (lv_at hl 1 rfl) ?_
        refine lv_icmp_eq (tgt := 648) hx hb dL_law_643 (by decide) (fun _ => ?_) (fun c1 => absurd ht c1)
        refine lv_iload hx hb dL_law_648 (lv_at hl 1 rfl) ?_
        refine lv_if_ne (tgt := 665) hx hb dL_law_650 (by decide) (fun _ => ?_) (fun c1 => absurd c1 (by decide))
        refine lv_goto (tgt := 1764) hx hb dL_law_665 (by decide) ?_
        exact kk _ _ _ _ _ ls hrel hP hD hS (lv_sub hl [2, 3, 4, 5, 6] rfl)
      · exact absurd hq List.not_mem_nil

set_option maxHeartbeats 4000000 in
set_option maxRecDepth 100000 in
theorem lc_order {p : Program} {l : Launch} {e : Env} {s : State} {m : MethodId} {below : List Frame} {meth : Method} {c : Code} {b L : Nat} {xs : Nat → Int32} (hl0 : l.stackTraces = false) (C0 : lw_At p s m meth c b L xs) (hZ : cst (fun q : Nat => s.heap.size ≤ q) s) {D : va_G} {cI cZ cJ : ClassId} (hK : va_K D vwCl [(cI, .int), (cZ, .boolean), (cJ, .long)] s) {Rel : GS → MS → Prop} {am ad : Nat → Nat} {o : Nat} {f : Nat → Int64} {u : GS} {v : MS} {i : Int32} {j : Nat} (hj : j ≤ 511) (hi : lin i L) {p1 : Int32} (hp1 : xs (i + 1).toNatClampNeg = p1) {p2 : Int32} (hp2 : xs (i + 2).toNatClampNeg = p2) {p3 : Int32} (hp3 : xs (i + 3).toNatClampNeg = p3) (hsim : SI Rel (g_X9_order u p1 p2 p3) (g_X10_order v p1 p2 p3) [("java/lang/IndexOutOfBoundsException", 1), ("java/lang/IllegalArgumentException", 2), ("java/lang/IllegalStateException", 3)]) {H : Heap} {locs : List Loc} {ls : Array Slot} (hP : va_P D vwCl (wM cI cZ am v ++ wL cI cZ cJ ad o f u) H) (hD : va_D (fun q : Nat => s.heap.size ≤ q) (wM cI cZ am v ++ wL cI cZ cJ ad o f u)) (hS : va_S (fun q : Nat => s.heap.size ≤ q) s.heap H locs) (hl : lv_has ls 7 [(0, .ref b), (1, .ref (ad 0)), (2, .ref (am 0)), (3, .ref o), (4, .int i)]) (kk : ∀ (u' : GS) (v' : MS) (f' : Nat → Int64) (H : Heap) (locs : List Loc) (ls : Array Slot), Rel u' v' → va_P D vwCl (wM cI cZ am v' ++ wL cI cZ cJ ad o f' u') H → va_D (fun q : Nat => s.heap.size ≤ q) (wM cI cZ am v' ++ wL cI cZ cJ ad o f' u') → va_S (fun q : Nat => s.heap.size ≤ q) s.heap H locs → lv_has ls 7 [(0, .ref b), (1, .ref (ad 0)), (2, .ref (am 0)), (3, .ref o), (4, .int i)] → W p l e room_1 s m #[Value.ref b] below meth c H locs (60 + (j + 1)) (5141 + 6 * (j + 1)) (lw_Z below #[Value.ref b] s) (F0 m 1764 ls [])) : W p l e room_1 s m #[Value.ref b] below meth c H locs (60 + j) (5141 + 6 * j) (lw_Z below #[Value.ref b] s) (F0 m 668 ls []) := by
  obtain ⟨hx, hb, hr, hml, hown, hts0, hX, hbl, hlocks, hgv⟩ := id C0
  have hts : ∀ w ∈ Wall, w.before #[Value.ref b] s = true := fun w h => hts0 w (wall_tbl w h)
  have hA : ∀ q : Nat, s.heap.size ≤ q → (fun q : Nat => s.heap.size ≤ q) q := fun _ h => h
  have hbA : ¬ (fun q : Nat => s.heap.size ≤ q) b := Nat.not_le.mpr hbl
  obtain ⟨-, hi1, hi2, hi3, hi4, hi5⟩ := hi
  rcases hsim with ⟨r, u', v', hc, hm, ht, hrel⟩ | ⟨q, u', b9, v', hq, hc, hm, ht, hrel⟩
  · refine lv_aload_n hx hb dL_law_668 rfl (lv_at hl 1 rfl) ?_
    refine lv_aload_n hx hb dL_law_669 rfl (lv_at hl 0 rfl) ?_
    refine lv_iload hx hb dL_law_670 (lv_at hl 4 rfl) ?_
    refine lv_iconst (v := 1) hx hb dL_law_672 (by decide) ?_
    refine lv_iadd hx hb dL_law_673 ?_
    refine va_sld hx hb hX hbl hbA hS hi1 dL_law_674 ?_
    refine lv_topn hp1 ?_
    refine lv_aload_n hx hb dL_law_675 rfl (lv_at hl 0 rfl) ?_
    refine lv_iload hx hb dL_law_676 (lv_at hl 4 rfl) ?_
    refine lv_iconst (v := 2) hx hb dL_law_678 (by decide) ?_
    refine lv_iadd hx hb dL_law_679 ?_
    refine va_sld hx hb hX hbl hbA hS hi2 dL_law_680 ?_
    refine lv_topn hp2 ?_
    refine lv_aload_n hx hb dL_law_681 rfl (lv_at hl 0 rfl) ?_
    refine lv_iload hx hb dL_law_682 (lv_at hl 4 rfl) ?_
    refine lv_iconst (v := 3) hx hb dL_law_684 (by decide) ?_
    refine lv_iadd hx hb dL_law_685 ?_
    refine va_sld hx hb hX hbl hbA hS hi3 dL_law_686 ?_
    refine lv_topn hp3 ?_
    refine lv_aload_n hx hb dL_law_687 rfl (lv_at hl 3 rfl) ?_
    refine cc_iSHF (As := [.ref (ad 0), .int p1, .int p2, .int p3, .ref o]) (rest := []) (wr := wM cI cZ am v) ⟨hx, hb, hml, hown, hts⟩ (k_L_order l D cI cZ cJ ad o f u p1 p2 p3 hc) (vx_cwSW 5 hts (gwSH mw_662 mw_663 mw_47 mw_664) rfl rfl rfl (by decide +kernel) ⟨(Nat.le_of_ble_eq_true rfl), (Nat.le_of_ble_eq_true rfl)⟩) hK hP hD hS hA hZ [24, 25, 26, 27, 28, 29, 30, 31, 32, 33, 34, 35, 36, 37, 38, 39, 40, 41, 42, 43, 44, 45, 46, 47, 48, 49, 50, 51, 52, 53, 54, 55, 56, 57, 58, 59] [0, 1, 2, 3, 4, 5, 6, 7, 8, 9, 10, 11, 12, 13, 14, 15, 16, 17, 18, 19, 20, 21, 22, 23] rfl rfl (by decide) rfl (by decide) (by decide) rfl hl.1 rfl (Nat.le_of_ble_eq_true rfl) dL_law_688 ⟨by show 60 + j ≤ 1087; omega, by show 5141 + 6 * j ≤ 13351; omega⟩ (fun H locs hP hD hS => ?_)
    replace hP : va_P D vwCl (wM cI cZ am v ++ wL cI cZ cJ ad o (vp_updL f (0 : Int32).toNatClampNeg r.toInt64) u') H := hP
    replace hD : va_D (fun q : Nat => s.heap.size ≤ q) (wM cI cZ am v ++ wL cI cZ cJ ad o (vp_updL f (0 : Int32).toNatClampNeg r.toInt64) u') := hD
    refine W.widen (k := 60 + (j + 1)) (n := 5141 + 6 * (j + 1)) (by omega) (by omega) ?_
    refine lv_istore (lv' := [(5, .int 0), (0, .ref b), (1, .ref (ad 0)), (2, .ref (am 0)), (3, .ref o), (4, .int i)]) hx hb dL_law_691 hl (by decide) rfl (fun ls hl => ?_)
    refine lv_aload_n hx hb dL_law_693 rfl (lv_at hl 3 rfl) ?_
    refine lv_aload_n hx hb dL_law_694 rfl (lv_at hl 1 rfl) ?_
    refine lv_iload hx hb dL_law_695 (lv_at hl 5 rfl) ?_
    refine lv_iconst (v := 1) hx hb dL_law_697 (by decide) ?_
    refine lv_iadd hx hb dL_law_698 ?_
    refine va_sld hx hb hX hbl hbA hS hi1 dL_law_699 ?_
    refine lv_topn hp1 ?_
    refine lv_aload_n hx hb dL_law_700 rfl (lv_at hl 1 rfl) ?_
    refine lv_iload hx hb dL_law_701 (lv_at hl 5 rfl) ?_
    refine lv_iconst (v := 2) hx hb dL_law_703 (by decide) ?_
    refine lv_iadd hx hb dL_law_704 ?_
    refine va_sld hx hb hX hbl hbA hS hi2 dL_law_705 ?_
    refine lv_topn hp2 ?_
    refine lv_aload_n hx hb dL_law_706 rfl (lv_at hl 1 rfl) ?_
    refine lv_iload hx hb dL_law_707 (lv_at hl 5 rfl) ?_
    refine lv_iconst (v := 3) hx hb dL_law_709 (by decide) ?_
    refine lv_iadd hx hb dL_law_710 ?_
    refine va_sld hx hb hX hbl hbA hS hi3 dL_law_711 ?_
    refine lv_topn hp3 ?_
    refine cc_iVF (As := [.int p1, .int p2, .int p3]) (rest := []) (wr := wL cI cZ cJ ad o (vp_updL f (0 : Int32).toNatClampNeg r.toInt64) u') ⟨hx, hb, hml, hown, hts⟩ (k_X10_order l D cI cZ am v p1 p2 p3 hm) (cwV 3 hts (gwV mw_1062 mw_1063 mw_1064 mw_59 mw_1065) rfl rfl rfl (by decide +kernel) ⟨(Nat.le_of_ble_eq_true rfl), (Nat.le_of_ble_eq_true rfl)⟩) (hK.sub [0, 1] rfl) hP hD hS hA hZ [0, 1, 2, 3, 4, 5, 6, 7, 8, 9, 10, 11, 12, 13, 14, 15, 16, 17, 18, 19, 20, 21, 22, 23] [24, 25, 26, 27, 28, 29, 30, 31, 32, 33, 34, 35, 36, 37, 38, 39, 40, 41, 42, 43, 44, 45, 46, 47, 48, 49, 50, 51, 52, 53, 54, 55, 56, 57, 58, 59] rfl rfl (by decide) rfl (by decide) (by decide) (ci := 10) (q0 := 0) rfl rfl rfl hl.1 rfl (Nat.le_of_ble_eq_true rfl) dL_law_712 ⟨by show 60 + (j + 1) ≤ 1087; omega, by show 5141 + 6 * (j + 1) ≤ 13351; omega⟩ (fun H locs hP hD hS => ?_)
    replace hP : va_P D vwCl (wM cI cZ am v' ++ wL cI cZ cJ ad o (vp_updL f (0 : Int32).toNatClampNeg r.toInt64) u') H := hP.sub [36, 37, 38, 39, 40, 41, 42, 43, 44, 45, 46, 47, 48, 49, 50, 51, 52, 53, 54, 55, 56, 57, 58, 59, 0, 1, 2, 3, 4, 5, 6, 7, 8, 9, 10, 11, 12, 13, 14, 15, 16, 17, 18, 19, 20, 21, 22, 23, 24, 25, 26, 27, 28, 29, 30, 31, 32, 33, 34, 35] rfl
    replace hD : va_D (fun q : Nat => s.heap.size ≤ q) (wM cI cZ am v' ++ wL cI cZ cJ ad o (vp_updL f (0 : Int32).toNatClampNeg r.toInt64) u') := hD.sub [36, 37, 38, 39, 40, 41, 42, 43, 44, 45, 46, 47, 48, 49, 50, 51, 52, 53, 54, 55, 56, 57, 58, 59, 0, 1, 2, 3, 4, 5, 6, 7, 8, 9, 10, 11, 12, 13, 14, 15, 16, 17, 18, 19, 20, 21, 22, 23, 24, 25, 26, 27, 28, 29, 30, 31, 32, 33, 34, 35] (by decide) rfl
    refine lv_istore (lv' := [(6, .int r), (5, .int 0), (0, .ref b), (1, .ref (ad 0)), (2, .ref (am 0)), (3, .ref o), (4, .int i)]) hx hb dL_law_715 hl (by decide) rfl (fun ls hl => ?_)
    refine lv_aload_n hx hb dL_law_717 rfl (lv_at hl 4 rfl) ?_
    refine cc_iVF (As := []) (rest := []) (wr := wL cI cZ cJ ad o (vp_updL f (0 : Int32).toNatClampNeg r.toInt64) u') ⟨hx, hb, hml, hown, hts⟩ (k_X10_thrown l D cI cZ am v' rfl) (cwV 0 hts (gwV mw_968 mw_969 mw_970 mw_59 mw_971) rfl rfl rfl (by decide +kernel) ⟨(Nat.le_of_ble_eq_true rfl), (Nat.le_of_ble_eq_true rfl)⟩) (hK.sub [0, 1] rfl) hP hD hS hA hZ [0, 1, 2, 3, 4, 5, 6, 7, 8, 9, 10, 11, 12, 13, 14, 15, 16, 17, 18, 19, 20, 21, 22, 23] [24, 25, 26, 27, 28, 29, 30, 31, 32, 33, 34, 35, 36, 37, 38, 39, 40, 41, 42, 43, 44, 45, 46, 47, 48, 49, 50, 51, 52, 53, 54, 55, 56, 57, 58, 59] rfl rfl (by decide) rfl (by decide) (by decide) (ci := 10) (q0 := 0) rfl rfl rfl hl.1 rfl (Nat.le_of_ble_eq_true rfl) dL_law_718 ⟨by show 60 + (j + 1) ≤ 1087; omega, by show 5141 + 6 * (j + 1) ≤ 13351; omega⟩ (fun H locs hP hD hS => ?_)
    replace hP : va_P D vwCl (wM cI cZ am v' ++ wL cI cZ cJ ad o (vp_updL f (0 : Int32).toNatClampNeg r.toInt64) u') H := hP.sub [36, 37, 38, 39, 40, 41, 42, 43, 44, 45, 46, 47, 48, 49, 50, 51, 52, 53, 54, 55, 56, 57, 58, 59, 0, 1, 2, 3, 4, 5, 6, 7, 8, 9, 10, 11, 12, 13, 14, 15, 16, 17, 18, 19, 20, 21, 22, 23, 24, 25, 26, 27, 28, 29, 30, 31, 32, 33, 34, 35] rfl
    replace hD : va_D (fun q : Nat => s.heap.size ≤ q) (wM cI cZ am v' ++ wL cI cZ cJ ad o (vp_updL f (0 : Int32).toNatClampNeg r.toInt64) u') := hD.sub [36, 37, 38, 39, 40, 41, 42, 43, 44, 45, 46, 47, 48, 49, 50, 51, 52, 53, 54, 55, 56, 57, 58, 59, 0, 1, 2, 3, 4, 5, 6, 7, 8, 9, 10, 11, 12, 13, 14, 15, 16, 17, 18, 19, 20, 21, 22, 23, 24, 25, 26, 27, 28, 29, 30, 31, 32, 33, 34, 35] (by decide) rfl
    refine lv_iload hx hb dL_law_721 (lv_at hl 1 rfl) ?_
    refine lv_icmp_eq (tgt := 728) hx hb dL_law_723 (by decide) (fun _ => ?_) (fun c1 => absurd ht c1)
    refine lv_iload hx hb dL_law_728 (lv_at hl 1 rfl) ?_
    refine lv_if_ne (tgt := 745) hx hb dL_law_730 (by decide) (fun c1 => absurd rfl c1) (fun _ => ?_)
    refine lv_aload_n hx hb dL_law_733 rfl (lv_at hl 5 rfl) ?_
    refine lv_iconst (v := 0) hx hb dL_law_734 (by decide) ?_
    refine va_lald (D := D) hx hb hK hP 24 2 rfl rfl (by unfold vp_in; decide) dL_law_735 ?_
    refine lv_iload hx hb dL_law_736 (lv_at hl 0 rfl) ?_
    refine lv_i2l (v := r.toInt64) hx hb dL_law_738 rfl ?_
    refine W.lcmp hx hb dL_law_739 ?_
    refine lv_if_eq (tgt := 745) hx hb dL_law_740 (by decide) (fun _ => ?_) (fun c2 => absurd (by simp [lg_cmp, vp_updL]) c2)
    refine lv_goto (tgt := 1764) hx hb dL_law_745 (by decide) ?_
    exact kk _ _ _ _ _ ls hrel hP hD hS (lv_sub hl [2, 3, 4, 5, 6] rfl)
  · rcases List.mem_cons.mp hq with rfl | hq
    · refine lv_aload_n hx hb dL_law_668 rfl (lv_at hl 1 rfl) ?_
      refine lv_aload_n hx hb dL_law_669 rfl (lv_at hl 0 rfl) ?_
      refine lv_iload hx hb dL_law_670 (lv_at hl 4 rfl) ?_
      refine lv_iconst (v := 1) hx hb dL_law_672 (by decide) ?_
      refine lv_iadd hx hb dL_law_673 ?_
      refine va_sld hx hb hX hbl hbA hS hi1 dL_law_674 ?_
      refine lv_topn hp1 ?_
      refine lv_aload_n hx hb dL_law_675 rfl (lv_at hl 0 rfl) ?_
      refine lv_iload hx hb dL_law_676 (lv_at hl 4 rfl) ?_
      refine lv_iconst (v := 2) hx hb dL_law_678 (by decide) ?_
      refine lv_iadd hx hb dL_law_679 ?_
      refine va_sld hx hb hX hbl hbA hS hi2 dL_law_680 ?_
      refine lv_topn hp2 ?_
      refine lv_aload_n hx hb dL_law_681 rfl (lv_at hl 0 rfl) ?_
      refine lv_iload hx hb dL_law_682 (lv_at hl 4 rfl) ?_
      refine lv_iconst (v := 3) hx hb dL_law_684 (by decide) ?_
      refine lv_iadd hx hb dL_law_685 ?_
      refine va_sld hx hb hX hbl hbA hS hi3 dL_law_686 ?_
      refine lv_topn hp3 ?_
      refine lv_aload_n hx hb dL_law_687 rfl (lv_at hl 3 rfl) ?_
      refine cc_iSHF (As := [.ref (ad 0), .int p1, .int p2, .int p3, .ref o]) (rest := []) (wr := wM cI cZ am v) ⟨hx, hb, hml, hown, hts⟩ (kx1_L_order l hl0 D cI cZ cJ ad o f u p1 p2 p3 hc) (vx_cwSW 5 hts (gwSH mw_662 mw_663 mw_47 mw_664) rfl rfl rfl (by decide +kernel) ⟨(Nat.le_of_ble_eq_true rfl), (Nat.le_of_ble_eq_true rfl)⟩) hK hP hD hS hA hZ [24, 25, 26, 27, 28, 29, 30, 31, 32, 33, 34, 35, 36, 37, 38, 39, 40, 41, 42, 43, 44, 45, 46, 47, 48, 49, 50, 51, 52, 53, 54, 55, 56, 57, 58, 59] [0, 1, 2, 3, 4, 5, 6, 7, 8, 9, 10, 11, 12, 13, 14, 15, 16, 17, 18, 19, 20, 21, 22, 23] rfl rfl (by decide) rfl (by decide) (by decide) rfl hl.1 rfl (Nat.le_of_ble_eq_true rfl) dL_law_688 ⟨by show 60 + j + 1 ≤ 1087; omega, by show 5141 + 6 * j + 6 ≤ 13351; omega⟩ (fun H locs hP hD hS => ?_)
      replace hP : va_P D vwCl (wM cI cZ am v ++ wL cI cZ cJ ad o f u') H := hP
      replace hD : va_D (fun q : Nat => s.heap.size ≤ q) (wM cI cZ am v ++ wL cI cZ cJ ad o f u') := hD
      refine W.widen (k := 60 + (j + 1)) (n := 5141 + 6 * (j + 1)) (by omega) (by omega) ?_
      refine lv_istore (lv' := [(5, .int 1), (0, .ref b), (1, .ref (ad 0)), (2, .ref (am 0)), (3, .ref o), (4, .int i)]) hx hb dL_law_691 hl (by decide) rfl (fun ls hl => ?_)
      refine lv_aload_n hx hb dL_law_693 rfl (lv_at hl 3 rfl) ?_
      refine lv_aload_n hx hb dL_law_694 rfl (lv_at hl 1 rfl) ?_
      refine lv_iload hx hb dL_law_695 (lv_at hl 5 rfl) ?_
      refine lv_iconst (v := 1) hx hb dL_law_697 (by decide) ?_
      refine lv_iadd hx hb dL_law_698 ?_
      refine va_sld hx hb hX hbl hbA hS hi1 dL_law_699 ?_
      refine lv_topn hp1 ?_
      refine lv_aload_n hx hb dL_law_700 rfl (lv_at hl 1 rfl) ?_
      refine lv_iload hx hb dL_law_701 (lv_at hl 5 rfl) ?_
      refine lv_iconst (v := 2) hx hb dL_law_703 (by decide) ?_
      refine lv_iadd hx hb dL_law_704 ?_
      refine va_sld hx hb hX hbl hbA hS hi2 dL_law_705 ?_
      refine lv_topn hp2 ?_
      refine lv_aload_n hx hb dL_law_706 rfl (lv_at hl 1 rfl) ?_
      refine lv_iload hx hb dL_law_707 (lv_at hl 5 rfl) ?_
      refine lv_iconst (v := 3) hx hb dL_law_709 (by decide) ?_
      refine lv_iadd hx hb dL_law_710 ?_
      refine va_sld hx hb hX hbl hbA hS hi3 dL_law_711 ?_
      refine lv_topn hp3 ?_
      refine cc_iVF (As := [.int p1, .int p2, .int p3]) (rest := []) (wr := wL cI cZ cJ ad o f u') ⟨hx, hb, hml, hown, hts⟩ (k_X10_order l D cI cZ am v p1 p2 p3 hm) (cwV 3 hts (gwV mw_1062 mw_1063 mw_1064 mw_59 mw_1065) rfl rfl rfl (by decide +kernel) ⟨(Nat.le_of_ble_eq_true rfl), (Nat.le_of_ble_eq_true rfl)⟩) (hK.sub [0, 1] rfl) hP hD hS hA hZ [0, 1, 2, 3, 4, 5, 6, 7, 8, 9, 10, 11, 12, 13, 14, 15, 16, 17, 18, 19, 20, 21, 22, 23] [24, 25, 26, 27, 28, 29, 30, 31, 32, 33, 34, 35, 36, 37, 38, 39, 40, 41, 42, 43, 44, 45, 46, 47, 48, 49, 50, 51, 52, 53, 54, 55, 56, 57, 58, 59] rfl rfl (by decide) rfl (by decide) (by decide) (ci := 10) (q0 := 0) rfl rfl rfl hl.1 rfl (Nat.le_of_ble_eq_true rfl) dL_law_712 ⟨by show 60 + (j + 1) ≤ 1087; omega, by show 5141 + 6 * (j + 1) ≤ 13351; omega⟩ (fun H locs hP hD hS => ?_)
      replace hP : va_P D vwCl (wM cI cZ am v' ++ wL cI cZ cJ ad o f u') H := hP.sub [36, 37, 38, 39, 40, 41, 42, 43, 44, 45, 46, 47, 48, 49, 50, 51, 52, 53, 54, 55, 56, 57, 58, 59, 0, 1, 2, 3, 4, 5, 6, 7, 8, 9, 10, 11, 12, 13, 14, 15, 16, 17, 18, 19, 20, 21, 22, 23, 24, 25, 26, 27, 28, 29, 30, 31, 32, 33, 34, 35] rfl
      replace hD : va_D (fun q : Nat => s.heap.size ≤ q) (wM cI cZ am v' ++ wL cI cZ cJ ad o f u') := hD.sub [36, 37, 38, 39, 40, 41, 42, 43, 44, 45, 46, 47, 48, 49, 50, 51, 52, 53, 54, 55, 56, 57, 58, 59, 0, 1, 2, 3, 4, 5, 6, 7, 8, 9, 10, 11, 12, 13, 14, 15, 16, 17, 18, 19, 20, 21, 22, 23, 24, 25, 26, 27, 28, 29, 30, 31, 32, 33, 34, 35] (by decide) rfl
      refine lv_istore (lv' := [(6, .int b9), (5, .int 1), (0, .ref b), (1, .ref (ad 0)), (2, .ref (am 0)), (3, .ref o), (4, .int i)]) hx hb dL_law_715 hl (by decide) rfl (fun ls hl => ?_)
      refine lv_aload_n hx hb dL_law_717 rfl (lv_at hl 4 rfl) ?_
      refine cc_iVF (As := []) (rest := []) (wr := wL cI cZ cJ ad o f u') ⟨hx, hb, hml, hown, hts⟩ (k_X10_thrown l D cI cZ am v' rfl) (cwV 0 hts (gwV mw_968 mw_969 mw_970 mw_59 mw_971) rfl rfl rfl (by decide +kernel) ⟨(Nat.le_of_ble_eq_true rfl), (Nat.le_of_ble_eq_true rfl)⟩) (hK.sub [0, 1] rfl) hP hD hS hA hZ [0, 1, 2, 3, 4, 5, 6, 7, 8, 9, 10, 11, 12, 13, 14, 15, 16, 17, 18, 19, 20, 21, 22, 23] [24, 25, 26, 27, 28, 29, 30, 31, 32, 33, 34, 35, 36, 37, 38, 39, 40, 41, 42, 43, 44, 45, 46, 47, 48, 49, 50, 51, 52, 53, 54, 55, 56, 57, 58, 59] rfl rfl (by decide) rfl (by decide) (by decide) (ci := 10) (q0 := 0) rfl rfl rfl hl.1 rfl (Nat.le_of_ble_eq_true rfl) dL_law_718 ⟨by show 60 + (j + 1) ≤ 1087; omega, by show 5141 + 6 * (j + 1) ≤ 13351; omega⟩ (fun H locs hP hD hS => ?_)
      replace hP : va_P D vwCl (wM cI cZ am v' ++ wL cI cZ cJ ad o f u') H := hP.sub [36, 37, 38, 39, 40, 41, 42, 43, 44, 45, 46, 47, 48, 49, 50, 51, 52, 53, 54, 55, 56, 57, 58, 59, 0, 1, 2, 3, 4, 5, 6, 7, 8, 9, 10, 11, 12, 13, 14, 15, 16, 17, 18, 19, 20, 21, 22, 23, 24, 25, 26, 27, 28, 29, 30, 31, 32, 33, 34, 35] rfl
      replace hD : va_D (fun q : Nat => s.heap.size ≤ q) (wM cI cZ am v' ++ wL cI cZ cJ ad o f u') := hD.sub [36, 37, 38, 39, 40, 41, 42, 43, 44, 45, 46, 47, 48, 49, 50, 51, 52, 53, 54, 55, 56, 57, 58, 59, 0, 1, 2, 3, 4, 5, 6, 7, 8, 9, 10, 11, 12, 13, 14, 15, 16, 17, 18, 19, 20, 21, 22, 23, 24, 25, 26, 27, 28, 29, 30, 31, 32, 33, 34, 35] (by decide) rfl
      refine lv_iload hx hb dL_law_721 (lv_at hl 1 rfl) ?_
      refine lv_icmp_eq (tgt := 728) hx hb dL_law_723 (by decide) (fun _ => ?_) (fun c1 => absurd ht c1)
      refine lv_iload hx hb dL_law_728 (lv_at hl 1 rfl) ?_
      refine lv_if_ne (tgt := 745) hx hb dL_law_730 (by decide) (fun _ => ?_) (fun c1 => absurd c1 (by decide))
      refine lv_goto (tgt := 1764) hx hb dL_law_745 (by decide) ?_
      exact kk _ _ _ _ _ ls hrel hP hD hS (lv_sub hl [2, 3, 4, 5, 6] rfl)
    · rcases List.mem_cons.mp hq with rfl | hq
      · refine lv_aload_n hx hb dL_law_668 rfl (lv_at hl 1 rfl) ?_
        refine lv_aload_n hx hb dL_law_669 rfl (lv_at hl 0 rfl) ?_
        refine lv_iload hx hb dL_law_670 (lv_at hl 4 rfl) ?_
        refine lv_iconst (v := 1) hx hb dL_law_672 (by decide) ?_
        refine lv_iadd hx hb dL_law_673 ?_
        refine va_sld hx hb hX hbl hbA hS hi1 dL_law_674 ?_
        refine lv_topn hp1 ?_
        refine lv_aload_n hx hb dL_law_675 rfl (lv_at hl 0 rfl) ?_
        refine lv_iload hx hb dL_law_676 (lv_at hl 4 rfl) ?_
        refine lv_iconst (v := 2) hx hb dL_law_678 (by decide) ?_
        refine lv_iadd hx hb dL_law_679 ?_
        refine va_sld hx hb hX hbl hbA hS hi2 dL_law_680 ?_
        refine lv_topn hp2 ?_
        refine lv_aload_n hx hb dL_law_681 rfl (lv_at hl 0 rfl) ?_
        refine lv_iload hx hb dL_law_682 (lv_at hl 4 rfl) ?_
        refine lv_iconst (v := 3) hx hb dL_law_684 (by decide) ?_
        refine lv_iadd hx hb dL_law_685 ?_
        refine va_sld hx hb hX hbl hbA hS hi3 dL_law_686 ?_
        refine lv_topn hp3 ?_
        refine lv_aload_n hx hb dL_law_687 rfl (lv_at hl 3 rfl) ?_
        refine cc_iSHF (As := [.ref (ad 0), .int p1, .int p2, .int p3, .ref o]) (rest := []) (wr := wM cI cZ am v) ⟨hx, hb, hml, hown, hts⟩ (kx2_L_order l hl0 D cI cZ cJ ad o f u p1 p2 p3 hc) (vx_cwSW 5 hts (gwSH mw_662 mw_663 mw_47 mw_664) rfl rfl rfl (by decide +kernel) ⟨(Nat.le_of_ble_eq_true rfl), (Nat.le_of_ble_eq_true rfl)⟩) hK hP hD hS hA hZ [24, 25, 26, 27, 28, 29, 30, 31, 32, 33, 34, 35, 36, 37, 38, 39, 40, 41, 42, 43, 44, 45, 46, 47, 48, 49, 50, 51, 52, 53, 54, 55, 56, 57, 58, 59] [0, 1, 2, 3, 4, 5, 6, 7, 8, 9, 10, 11, 12, 13, 14, 15, 16, 17, 18, 19, 20, 21, 22, 23] rfl rfl (by decide) rfl (by decide) (by decide) rfl hl.1 rfl (Nat.le_of_ble_eq_true rfl) dL_law_688 ⟨by show 60 + j + 1 ≤ 1087; omega, by show 5141 + 6 * j + 6 ≤ 13351; omega⟩ (fun H locs hP hD hS => ?_)
        replace hP : va_P D vwCl (wM cI cZ am v ++ wL cI cZ cJ ad o f u') H := hP
        replace hD : va_D (fun q : Nat => s.heap.size ≤ q) (wM cI cZ am v ++ wL cI cZ cJ ad o f u') := hD
        refine W.widen (k := 60 + (j + 1)) (n := 5141 + 6 * (j + 1)) (by omega) (by omega) ?_
        refine lv_istore (lv' := [(5, .int 2), (0, .ref b), (1, .ref (ad 0)), (2, .ref (am 0)), (3, .ref o), (4, .int i)]) hx hb dL_law_691 hl (by decide) rfl (fun ls hl => ?_)
        refine lv_aload_n hx hb dL_law_693 rfl (lv_at hl 3 rfl) ?_
        refine lv_aload_n hx hb dL_law_694 rfl (lv_at hl 1 rfl) ?_
        refine lv_iload hx hb dL_law_695 (lv_at hl 5 rfl) ?_
        refine lv_iconst (v := 1) hx hb dL_law_697 (by decide) ?_
        refine lv_iadd hx hb dL_law_698 ?_
        refine va_sld hx hb hX hbl hbA hS hi1 dL_law_699 ?_
        refine lv_topn hp1 ?_
        refine lv_aload_n hx hb dL_law_700 rfl (lv_at hl 1 rfl) ?_
        refine lv_iload hx hb dL_law_701 (lv_at hl 5 rfl) ?_
        refine lv_iconst (v := 2) hx hb dL_law_703 (by decide) ?_
        refine lv_iadd hx hb dL_law_704 ?_
        refine va_sld hx hb hX hbl hbA hS hi2 dL_law_705 ?_
        refine lv_topn hp2 ?_
        refine lv_aload_n hx hb dL_law_706 rfl (lv_at hl 1 rfl) ?_
        refine lv_iload hx hb dL_law_707 (lv_at hl 5 rfl) ?_
        refine lv_iconst (v := 3) hx hb dL_law_709 (by decide) ?_
        refine lv_iadd hx hb dL_law_710 ?_
        refine va_sld hx hb hX hbl hbA hS hi3 dL_law_711 ?_
        refine lv_topn hp3 ?_
        refine cc_iVF (As := [.int p1, .int p2, .int p3]) (rest := []) (wr := wL cI cZ cJ ad o f u') ⟨hx, hb, hml, hown, hts⟩ (k_X10_order l D cI cZ am v p1 p2 p3 hm) (cwV 3 hts (gwV mw_1062 mw_1063 mw_1064 mw_59 mw_1065) rfl rfl rfl (by decide +kernel) ⟨(Nat.le_of_ble_eq_true rfl), (Nat.le_of_ble_eq_true rfl)⟩) (hK.sub [0, 1] rfl) hP hD hS hA hZ [0, 1, 2, 3, 4, 5, 6, 7, 8, 9, 10, 11, 12, 13, 14, 15, 16, 17, 18, 19, 20, 21, 22, 23] [24, 25, 26, 27, 28, 29, 30, 31, 32, 33, 34, 35, 36, 37, 38, 39, 40, 41, 42, 43, 44, 45, 46, 47, 48, 49, 50, 51, 52, 53, 54, 55, 56, 57, 58, 59] rfl rfl (by decide) rfl (by decide) (by decide) (ci := 10) (q0 := 0) rfl rfl rfl hl.1 rfl (Nat.le_of_ble_eq_true rfl) dL_law_712 ⟨by show 60 + (j + 1) ≤ 1087; omega, by show 5141 + 6 * (j + 1) ≤ 13351; omega⟩ (fun H locs hP hD hS => ?_)
        replace hP : va_P D vwCl (wM cI cZ am v' ++ wL cI cZ cJ ad o f u') H := hP.sub [36, 37, 38, 39, 40, 41, 42, 43, 44, 45, 46, 47, 48, 49, 50, 51, 52, 53, 54, 55, 56, 57, 58, 59, 0, 1, 2, 3, 4, 5, 6, 7, 8, 9, 10, 11, 12, 13, 14, 15, 16, 17, 18, 19, 20, 21, 22, 23, 24, 25, 26, 27, 28, 29, 30, 31, 32, 33, 34, 35] rfl
        replace hD : va_D (fun q : Nat => s.heap.size ≤ q) (wM cI cZ am v' ++ wL cI cZ cJ ad o f u') := hD.sub [36, 37, 38, 39, 40, 41, 42, 43, 44, 45, 46, 47, 48, 49, 50, 51, 52, 53, 54, 55, 56, 57, 58, 59, 0, 1, 2, 3, 4, 5, 6, 7, 8, 9, 10, 11, 12, 13, 14, 15, 16, 17, 18, 19, 20, 21, 22, 23, 24, 25, 26, 27, 28, 29, 30, 31, 32, 33, 34, 35] (by decide) rfl
        refine lv_istore (lv' := [(6, .int b9), (5, .int 2), (0, .ref b), (1, .ref (ad 0)), (2, .ref (am 0)), (3, .ref o), (4, .int i)]) hx hb dL_law_715 hl (by decide) rfl (fun ls hl => ?_)
        refine lv_aload_n hx hb dL_law_717 rfl (lv_at hl 4 rfl) ?_
        refine cc_iVF (As := []) (rest := []) (wr := wL cI cZ cJ ad o f u') ⟨hx, hb, hml, hown, hts⟩ (k_X10_thrown l D cI cZ am v' rfl) (cwV 0 hts (gwV mw_968 mw_969 mw_970 mw_59 mw_971) rfl rfl rfl (by decide +kernel) ⟨(Nat.le_of_ble_eq_true rfl), (Nat.le_of_ble_eq_true rfl)⟩) (hK.sub [0, 1] rfl) hP hD hS hA hZ [0, 1, 2, 3, 4, 5, 6, 7, 8, 9, 10, 11, 12, 13, 14, 15, 16, 17, 18, 19, 20, 21, 22, 23] [24, 25, 26, 27, 28, 29, 30, 31, 32, 33, 34, 35, 36, 37, 38, 39, 40, 41, 42, 43, 44, 45, 46, 47, 48, 49, 50, 51, 52, 53, 54, 55, 56, 57, 58, 59] rfl rfl (by decide) rfl (by decide) (by decide) (ci := 10) (q0 := 0) rfl rfl rfl hl.1 rfl (Nat.le_of_ble_eq_true rfl) dL_law_718 ⟨by show 60 + (j + 1) ≤ 1087; omega, by show 5141 + 6 * (j + 1) ≤ 13351; omega⟩ (fun H locs hP hD hS => ?_)
        replace hP : va_P D vwCl (wM cI cZ am v' ++ wL cI cZ cJ ad o f u') H := hP.sub [36, 37, 38, 39, 40, 41, 42, 43, 44, 45, 46, 47, 48, 49, 50, 51, 52, 53, 54, 55, 56, 57, 58, 59, 0, 1, 2, 3, 4, 5, 6, 7, 8, 9, 10, 11, 12, 13, 14, 15, 16, 17, 18, 19, 20, 21, 22, 23, 24, 25, 26, 27, 28, 29, 30, 31, 32, 33, 34, 35] rfl
        replace hD : va_D (fun q : Nat => s.heap.size ≤ q) (wM cI cZ am v' ++ wL cI cZ cJ ad o f u') := hD.sub [36, 37, 38, 39, 40, 41, 42, 43, 44, 45, 46, 47, 48, 49, 50, 51, 52, 53, 54, 55, 56, 57, 58, 59, 0, 1, 2, 3, 4, 5, 6, 7, 8, 9, 10, 11, 12, 13, 14, 15, 16, 17, 18, 19, 20, 21, 22, 23, 24, 25, 26, 27, 28, 29, 30, 31, 32, 33, 34, 35] (by decide) rfl
        refine lv_iload hx hb dL_law_721 (lv_at hl 1 rfl) ?_
        refine lv_icmp_eq (tgt := 728) hx hb dL_law_723 (by decide) (fun _ => ?_) (fun c1 => absurd ht c1)
        refine lv_iload hx hb dL_law_728 (lv_at hl 1 rfl) ?_
        refine lv_if_ne (tgt := 745) hx hb dL_law_730 (by decide) (fun _ => ?_) (fun c1 => absurd c1 (by decide))
        refine lv_goto (tgt := 1764) hx hb dL_law_745 (by decide) ?_
        exact kk _ _ _ _ _ ls hrel hP hD hS (lv_sub hl [2, 3, 4, 5, 6] rfl)
      · rcases List.mem_cons.mp hq with rfl | hq
        · refine lv_aload_n hx hb dL_law_668 rfl (lv_at hl 1 rfl) ?_
          refine lv_aload_n hx hb dL_law_669 rfl (lv_at hl 0 rfl) ?_
          refine lv_iload hx hb dL_law_670 (lv_at hl 4 rfl) ?_
          refine lv_iconst (v := 1) hx hb dL_law_672 (by decide) ?_
          refine lv_iadd hx hb dL_law_673 ?_
          refine va_sld hx hb hX hbl hbA hS hi1 dL_law_674 ?_
          refine lv_topn hp1 ?_
          refine lv_aload_n hx hb dL_law_675 rfl (lv_at hl 0 rfl) ?_
          refine lv_iload hx hb dL_law_676 (lv_at hl 4 rfl) ?_
          refine lv_iconst (v := 2) hx hb dL_law_678 (by decide) ?_
          refine lv_iadd hx hb dL_law_679 ?_
          refine va_sld hx hb hX hbl hbA hS hi2 dL_law_680 ?_
          refine lv_topn hp2 ?_
          refine lv_aload_n hx hb dL_law_681 rfl (lv_at hl 0 rfl) ?_
          refine lv_iload hx hb dL_law_682 (lv_at hl 4 rfl) ?_
          refine lv_iconst (v := 3) hx hb dL_law_684 (by decide) ?_
          refine lv_iadd hx hb dL_law_685 ?_
          refine va_sld hx hb hX hbl hbA hS hi3 dL_law_686 ?_
          refine lv_topn hp3 ?_
          refine lv_aload_n hx hb dL_law_687 rfl (lv_at hl 3 rfl) ?_
          refine cc_iSHF (As := [.ref (ad 0), .int p1, .int p2, .int p3, .ref o]) (rest := []) (wr := wM cI cZ am v) ⟨hx, hb, hml, hown, hts⟩ (kx3_L_order l hl0 D cI cZ cJ ad o f u p1 p2 p3 hc) (vx_cwSW 5 hts (gwSH mw_662 mw_663 mw_47 mw_664) rfl rfl rfl (by decide +kernel) ⟨(Nat.le_of_ble_eq_true rfl), (Nat.le_of_ble_eq_true rfl)⟩) hK hP hD hS hA hZ [24, 25, 26, 27, 28, 29, 30, 31, 32, 33, 34, 35, 36, 37, 38, 39, 40, 41, 42, 43, 44, 45, 46, 47, 48, 49, 50, 51, 52, 53, 54, 55, 56, 57, 58, 59] [0, 1, 2, 3, 4, 5, 6, 7, 8, 9, 10, 11, 12, 13, 14, 15, 16, 17, 18, 19, 20, 21, 22, 23] rfl rfl (by decide) rfl (by decide) (by decide) rfl hl.1 rfl (Nat.le_of_ble_eq_true rfl) dL_law_688 ⟨by show 60 + j + 1 ≤ 1087; omega, by show 5141 + 6 * j + 6 ≤ 13351; omega⟩ (fun H locs hP hD hS => ?_)
          replace hP : va_P D vwCl (wM cI cZ am v ++ wL cI cZ cJ ad o f u') H := hP
          replace hD : va_D (fun q : Nat => s.heap.size ≤ q) (wM cI cZ am v ++ wL cI cZ cJ ad o f u') := hD
          refine W.widen (k := 60 + (j + 1)) (n := 5141 + 6 * (j + 1)) (by omega) (by omega) ?_
          refine lv_istore (lv' := [(5, .int 3), (0, .ref b), (1, .ref (ad 0)), (2, .ref (am 0)), (3, .ref o), (4, .int i)]) hx hb dL_law_691 hl (by decide) rfl (fun ls hl => ?_)
          refine lv_aload_n hx hb dL_law_693 rfl (lv_at hl 3 rfl) ?_
          refine lv_aload_n hx hb dL_law_694 rfl (lv_at hl 1 rfl) ?_
          refine lv_iload hx hb dL_law_695 (lv_at hl 5 rfl) ?_
          refine lv_iconst (v := 1) hx hb dL_law_697 (by decide) ?_
          refine lv_iadd hx hb dL_law_698 ?_
          refine va_sld hx hb hX hbl hbA hS hi1 dL_law_699 ?_
          refine lv_topn hp1 ?_
          refine lv_aload_n hx hb dL_law_700 rfl (lv_at hl 1 rfl) ?_
          refine lv_iload hx hb dL_law_701 (lv_at hl 5 rfl) ?_
          refine lv_iconst (v := 2) hx hb dL_law_703 (by decide) ?_
          refine lv_iadd hx hb dL_law_704 ?_
          refine va_sld hx hb hX hbl hbA hS hi2 dL_law_705 ?_
          refine lv_topn hp2 ?_
          refine lv_aload_n hx hb dL_law_706 rfl (lv_at hl 1 rfl) ?_
          refine lv_iload hx hb dL_law_707 (lv_at hl 5 rfl) ?_
          refine lv_iconst (v := 3) hx hb dL_law_709 (by decide) ?_
          refine lv_iadd hx hb dL_law_710 ?_
          refine va_sld hx hb hX hbl hbA hS hi3 dL_law_711 ?_
          refine lv_topn hp3 ?_
          refine cc_iVF (As := [.int p1, .int p2, .int p3]) (rest := []) (wr := wL cI cZ cJ ad o f u') ⟨hx, hb, hml, hown, hts⟩ (k_X10_order l D cI cZ am v p1 p2 p3 hm) (cwV 3 hts (gwV mw_1062 mw_1063 mw_1064 mw_59 mw_1065) rfl rfl rfl (by decide +kernel) ⟨(Nat.le_of_ble_eq_true rfl), (Nat.le_of_ble_eq_true rfl)⟩) (hK.sub [0, 1] rfl) hP hD hS hA hZ [0, 1, 2, 3, 4, 5, 6, 7, 8, 9, 10, 11, 12, 13, 14, 15, 16, 17, 18, 19, 20, 21, 22, 23] [24, 25, 26, 27, 28, 29, 30, 31, 32, 33, 34, 35, 36, 37, 38, 39, 40, 41, 42, 43, 44, 45, 46, 47, 48, 49, 50, 51, 52, 53, 54, 55, 56, 57, 58, 59] rfl rfl (by decide) rfl (by decide) (by decide) (ci := 10) (q0 := 0) rfl rfl rfl hl.1 rfl (Nat.le_of_ble_eq_true rfl) dL_law_712 ⟨by show 60 + (j + 1) ≤ 1087; omega, by show 5141 + 6 * (j + 1) ≤ 13351; omega⟩ (fun H locs hP hD hS => ?_)
          replace hP : va_P D vwCl (wM cI cZ am v' ++ wL cI cZ cJ ad o f u') H := hP.sub [36, 37, 38, 39, 40, 41, 42, 43, 44, 45, 46, 47, 48, 49, 50, 51, 52, 53, 54, 55, 56, 57, 58, 59, 0, 1, 2, 3, 4, 5, 6, 7, 8, 9, 10, 11, 12, 13, 14, 15, 16, 17, 18, 19, 20, 21, 22, 23, 24, 25, 26, 27, 28, 29, 30, 31, 32, 33, 34, 35] rfl
          replace hD : va_D (fun q : Nat => s.heap.size ≤ q) (wM cI cZ am v' ++ wL cI cZ cJ ad o f u') := hD.sub [36, 37, 38, 39, 40, 41, 42, 43, 44, 45, 46, 47, 48, 49, 50, 51, 52, 53, 54, 55, 56, 57, 58, 59, 0, 1, 2, 3, 4, 5, 6, 7, 8, 9, 10, 11, 12, 13, 14, 15, 16, 17, 18, 19, 20, 21, 22, 23, 24, 25, 26, 27, 28, 29, 30, 31, 32, 33, 34, 35] (by decide) rfl
          refine lv_istore (lv' := [(6, .int b9), (5, .int 3), (0, .ref b), (1, .ref (ad 0)), (2, .ref (am 0)), (3, .ref o), (4, .int i)]) hx hb dL_law_715 hl (by decide) rfl (fun ls hl => ?_)
          refine lv_aload_n hx hb dL_law_717 rfl (lv_at hl 4 rfl) ?_
          refine cc_iVF (As := []) (rest := []) (wr := wL cI cZ cJ ad o f u') ⟨hx, hb, hml, hown, hts⟩ (k_X10_thrown l D cI cZ am v' rfl) (cwV 0 hts (gwV mw_968 mw_969 mw_970 mw_59 mw_971) rfl rfl rfl (by decide +kernel) ⟨(Nat.le_of_ble_eq_true rfl), (Nat.le_of_ble_eq_true rfl)⟩) (hK.sub [0, 1] rfl) hP hD hS hA hZ [0, 1, 2, 3, 4, 5, 6, 7, 8, 9, 10, 11, 12, 13, 14, 15, 16, 17, 18, 19, 20, 21, 22, 23] [24, 25, 26, 27, 28, 29, 30, 31, 32, 33, 34, 35, 36, 37, 38, 39, 40, 41, 42, 43, 44, 45, 46, 47, 48, 49, 50, 51, 52, 53, 54, 55, 56, 57, 58, 59] rfl rfl (by decide) rfl (by decide) (by decide) (ci := 10) (q0 := 0) rfl rfl rfl hl.1 rfl (Nat.le_of_ble_eq_true rfl) dL_law_718 ⟨by show 60 + (j + 1) ≤ 1087; omega, by show 5141 + 6 * (j + 1) ≤ 13351; omega⟩ (fun H locs hP hD hS => ?_)
          replace hP : va_P D vwCl (wM cI cZ am v' ++ wL cI cZ cJ ad o f u') H := hP.sub [36, 37, 38, 39, 40, 41, 42, 43, 44, 45, 46, 47, 48, 49, 50, 51, 52, 53, 54, 55, 56, 57, 58, 59, 0, 1, 2, 3, 4, 5, 6, 7, 8, 9, 10, 11, 12, 13, 14, 15, 16, 17, 18, 19, 20, 21, 22, 23, 24, 25, 26, 27, 28, 29, 30, 31, 32, 33, 34, 35] rfl
          replace hD : va_D (fun q : Nat => s.heap.size ≤ q) (wM cI cZ am v' ++ wL cI cZ cJ ad o f u') := hD.sub [36, 37, 38, 39, 40, 41, 42, 43, 44, 45, 46, 47, 48, 49, 50, 51, 52, 53, 54, 55, 56, 57, 58, 59, 0, 1, 2, 3, 4, 5, 6, 7, 8, 9, 10, 11, 12, 13, 14, 15, 16, 17, 18, 19, 20, 21, 22, 23, 24, 25, 26, 27, 28, 29, 30, 31, 32, 33, 34, 35] (by decide) rfl
          refine lv_iload hx hb dL_law_721 (lv_at hl 1 rfl) ?_
          refine lv_icmp_eq (tgt := 728) hx hb dL_law_723 (by decide) (fun _ => ?_) (fun c1 => absurd ht c1)
          refine lv_iload hx hb dL_law_728 (lv_at hl 1 rfl) ?_
          refine lv_if_ne (tgt := 745) hx hb dL_law_730 (by decide) (fun _ => ?_) (fun c1 => absurd c1 (by decide))
          refine lv_goto (tgt := 1764) hx hb dL_law_745 (by decide) ?_
          exact kk _ _ _ _ _ ls hrel hP hD hS (lv_sub hl [2, 3, 4, 5, 6] rfl)
        · exact absurd hq List.not_mem_nil

set_option maxHeartbeats 4000000 in
set_option maxRecDepth 100000 in
theorem lc_sign {p : Program} {l : Launch} {e : Env} {s : State} {m : MethodId} {below : List Frame} {meth : Method} {c : Code} {b L : Nat} {xs : Nat → Int32} (hl0 : l.stackTraces = false) (C0 : lw_At p s m meth c b L xs) (hZ : cst (fun q : Nat => s.heap.size ≤ q) s) {D : va_G} {cI cZ cJ : ClassId} (hK : va_K D vwCl [(cI, .int), (cZ, .boolean), (cJ, .long)] s) {Rel : GS → MS → Prop} {am ad : Nat → Nat} {o : Nat} {f : Nat → Int64} {u : GS} {v : MS} {i : Int32} {j : Nat} (hj : j ≤ 511) (hi : lin i L) {p1 : Int32} (hp1 : xs (i + 1).toNatClampNeg = p1) {p2 : Int32} (hp2 : xs (i + 2).toNatClampNeg = p2) (hsim : SI Rel (g_X9_sign u p1 p2) (g_X10_sign v p1 p2) [("java/lang/IndexOutOfBoundsException", 1)]) {H : Heap} {locs : List Loc} {ls : Array Slot} (hP : va_P D vwCl (wM cI cZ am v ++ wL cI cZ cJ ad o f u) H) (hD : va_D (fun q : Nat => s.heap.size ≤ q) (wM cI cZ am v ++ wL cI cZ cJ ad o f u)) (hS : va_S (fun q : Nat => s.heap.size ≤ q) s.heap H locs) (hl : lv_has ls 7 [(0, .ref b), (1, .ref (ad 0)), (2, .ref (am 0)), (3, .ref o), (4, .int i)]) (kk : ∀ (u' : GS) (v' : MS) (f' : Nat → Int64) (H : Heap) (locs : List Loc) (ls : Array Slot), Rel u' v' → va_P D vwCl (wM cI cZ am v' ++ wL cI cZ cJ ad o f' u') H → va_D (fun q : Nat => s.heap.size ≤ q) (wM cI cZ am v' ++ wL cI cZ cJ ad o f' u') → va_S (fun q : Nat => s.heap.size ≤ q) s.heap H locs → lv_has ls 7 [(0, .ref b), (1, .ref (ad 0)), (2, .ref (am 0)), (3, .ref o), (4, .int i)] → W p l e room_1 s m #[Value.ref b] below meth c H locs (60 + (j + 1)) (5141 + 6 * (j + 1)) (lw_Z below #[Value.ref b] s) (F0 m 1764 ls [])) : W p l e room_1 s m #[Value.ref b] below meth c H locs (60 + j) (5141 + 6 * j) (lw_Z below #[Value.ref b] s) (F0 m 748 ls []) := by
  obtain ⟨hx, hb, hr, hml, hown, hts0, hX, hbl, hlocks, hgv⟩ := id C0
  have hts : ∀ w ∈ Wall, w.before #[Value.ref b] s = true := fun w h => hts0 w (wall_tbl w h)
  have hA : ∀ q : Nat, s.heap.size ≤ q → (fun q : Nat => s.heap.size ≤ q) q := fun _ h => h
  have hbA : ¬ (fun q : Nat => s.heap.size ≤ q) b := Nat.not_le.mpr hbl
  obtain ⟨-, hi1, hi2, hi3, hi4, hi5⟩ := hi
  rcases hsim with ⟨r, u', v', hc, hm, ht, hrel⟩ | ⟨q, u', b9, v', hq, hc, hm, ht, hrel⟩
  · refine lv_aload_n hx hb dL_law_748 rfl (lv_at hl 1 rfl) ?_
    refine lv_aload_n hx hb dL_law_749 rfl (lv_at hl 0 rfl) ?_
    refine lv_iload hx hb dL_law_750 (lv_at hl 4 rfl) ?_
    refine lv_iconst (v := 1) hx hb dL_law_752 (by decide) ?_
    refine lv_iadd hx hb dL_law_753 ?_
    refine va_sld hx hb hX hbl hbA hS hi1 dL_law_754 ?_
    refine lv_topn hp1 ?_
    refine lv_aload_n hx hb dL_law_755 rfl (lv_at hl 0 rfl) ?_
    refine lv_iload hx hb dL_law_756 (lv_at hl 4 rfl) ?_
    refine lv_iconst (v := 2) hx hb dL_law_758 (by decide) ?_
    refine lv_iadd hx hb dL_law_759 ?_
    refine va_sld hx hb hX hbl hbA hS hi2 dL_law_760 ?_
    refine lv_topn hp2 ?_
    refine lv_aload_n hx hb dL_law_761 rfl (lv_at hl 3 rfl) ?_
    refine cc_iSHF (As := [.ref (ad 0), .int p1, .int p2, .ref o]) (rest := []) (wr := wM cI cZ am v) ⟨hx, hb, hml, hown, hts⟩ (k_L_sign l D cI cZ cJ ad o f u p1 p2 hc) (vx_cwSW 4 hts (gwSH mw_669 mw_670 mw_47 mw_671) rfl rfl rfl (by decide +kernel) ⟨(Nat.le_of_ble_eq_true rfl), (Nat.le_of_ble_eq_true rfl)⟩) hK hP hD hS hA hZ [24, 25, 26, 27, 28, 29, 30, 31, 32, 33, 34, 35, 36, 37, 38, 39, 40, 41, 42, 43, 44, 45, 46, 47, 48, 49, 50, 51, 52, 53, 54, 55, 56, 57, 58, 59] [0, 1, 2, 3, 4, 5, 6, 7, 8, 9, 10, 11, 12, 13, 14, 15, 16, 17, 18, 19, 20, 21, 22, 23] rfl rfl (by decide) rfl (by decide) (by decide) rfl hl.1 rfl (Nat.le_of_ble_eq_true rfl) dL_law_762 ⟨by show 60 + j ≤ 1087; omega, by show 5141 + 6 * j ≤ 13351; omega⟩ (fun H locs hP hD hS => ?_)
    replace hP : va_P D vwCl (wM cI cZ am v ++ wL cI cZ cJ ad o (vp_updL f (0 : Int32).toNatClampNeg r.toInt64) u') H := hP
    replace hD : va_D (fun q : Nat => s.heap.size ≤ q) (wM cI cZ am v ++ wL cI cZ cJ ad o (vp_updL f (0 : Int32).toNatClampNeg r.toInt64) u') := hD
    refine W.widen (k := 60 + (j + 1)) (n := 5141 + 6 * (j + 1)) (by omega) (by omega) ?_
    refine lv_istore (lv' := [(5, .int 0), (0, .ref b), (1, .ref (ad 0)), (2, .ref (am 0)), (3, .ref o), (4, .int i)]) hx hb dL_law_765 hl (by decide) rfl (fun ls hl => ?_)
    refine lv_aload_n hx hb dL_law_767 rfl (lv_at hl 3 rfl) ?_
    refine lv_aload_n hx hb dL_law_768 rfl (lv_at hl 1 rfl) ?_
    refine lv_iload hx hb dL_law_769 (lv_at hl 5 rfl) ?_
    refine lv_iconst (v := 1) hx hb dL_law_771 (by decide) ?_
    refine lv_iadd hx hb dL_law_772 ?_
    refine va_sld hx hb hX hbl hbA hS hi1 dL_law_773 ?_
    refine lv_topn hp1 ?_
    refine lv_aload_n hx hb dL_law_774 rfl (lv_at hl 1 rfl) ?_
    refine lv_iload hx hb dL_law_775 (lv_at hl 5 rfl) ?_
    refine lv_iconst (v := 2) hx hb dL_law_777 (by decide) ?_
    refine lv_iadd hx hb dL_law_778 ?_
    refine va_sld hx hb hX hbl hbA hS hi2 dL_law_779 ?_
    refine lv_topn hp2 ?_
    refine cc_iVF (As := [.int p1, .int p2]) (rest := []) (wr := wL cI cZ cJ ad o (vp_updL f (0 : Int32).toNatClampNeg r.toInt64) u') ⟨hx, hb, hml, hown, hts⟩ (k_X10_sign l D cI cZ am v p1 p2 hm) (cwV 2 hts (gwV mw_1066 mw_1067 mw_1068 mw_59 mw_1069) rfl rfl rfl (by decide +kernel) ⟨(Nat.le_of_ble_eq_true rfl), (Nat.le_of_ble_eq_true rfl)⟩) (hK.sub [0, 1] rfl) hP hD hS hA hZ [0, 1, 2, 3, 4, 5, 6, 7, 8, 9, 10, 11, 12, 13, 14, 15, 16, 17, 18, 19, 20, 21, 22, 23] [24, 25, 26, 27, 28, 29, 30, 31, 32, 33, 34, 35, 36, 37, 38, 39, 40, 41, 42, 43, 44, 45, 46, 47, 48, 49, 50, 51, 52, 53, 54, 55, 56, 57, 58, 59] rfl rfl (by decide) rfl (by decide) (by decide) (ci := 10) (q0 := 0) rfl rfl rfl hl.1 rfl (Nat.le_of_ble_eq_true rfl) dL_law_780 ⟨by show 60 + (j + 1) ≤ 1087; omega, by show 5141 + 6 * (j + 1) ≤ 13351; omega⟩ (fun H locs hP hD hS => ?_)
    replace hP : va_P D vwCl (wM cI cZ am v' ++ wL cI cZ cJ ad o (vp_updL f (0 : Int32).toNatClampNeg r.toInt64) u') H := hP.sub [36, 37, 38, 39, 40, 41, 42, 43, 44, 45, 46, 47, 48, 49, 50, 51, 52, 53, 54, 55, 56, 57, 58, 59, 0, 1, 2, 3, 4, 5, 6, 7, 8, 9, 10, 11, 12, 13, 14, 15, 16, 17, 18, 19, 20, 21, 22, 23, 24, 25, 26, 27, 28, 29, 30, 31, 32, 33, 34, 35] rfl
    replace hD : va_D (fun q : Nat => s.heap.size ≤ q) (wM cI cZ am v' ++ wL cI cZ cJ ad o (vp_updL f (0 : Int32).toNatClampNeg r.toInt64) u') := hD.sub [36, 37, 38, 39, 40, 41, 42, 43, 44, 45, 46, 47, 48, 49, 50, 51, 52, 53, 54, 55, 56, 57, 58, 59, 0, 1, 2, 3, 4, 5, 6, 7, 8, 9, 10, 11, 12, 13, 14, 15, 16, 17, 18, 19, 20, 21, 22, 23, 24, 25, 26, 27, 28, 29, 30, 31, 32, 33, 34, 35] (by decide) rfl
    refine lv_istore (lv' := [(6, .int r), (5, .int 0), (0, .ref b), (1, .ref (ad 0)), (2, .ref (am 0)), (3, .ref o), (4, .int i)]) hx hb dL_law_783 hl (by decide) rfl (fun ls hl => ?_)
    refine lv_aload_n hx hb dL_law_785 rfl (lv_at hl 4 rfl) ?_
    refine cc_iVF (As := []) (rest := []) (wr := wL cI cZ cJ ad o (vp_updL f (0 : Int32).toNatClampNeg r.toInt64) u') ⟨hx, hb, hml, hown, hts⟩ (k_X10_thrown l D cI cZ am v' rfl) (cwV 0 hts (gwV mw_968 mw_969 mw_970 mw_59 mw_971) rfl rfl rfl (by decide +kernel) ⟨(Nat.le_of_ble_eq_true rfl), (Nat.le_of_ble_eq_true rfl)⟩) (hK.sub [0, 1] rfl) hP hD hS hA hZ [0, 1, 2, 3, 4, 5, 6, 7, 8, 9, 10, 11, 12, 13, 14, 15, 16, 17, 18, 19, 20, 21, 22, 23] [24, 25, 26, 27, 28, 29, 30, 31, 32, 33, 34, 35, 36, 37, 38, 39, 40, 41, 42, 43, 44, 45, 46, 47, 48, 49, 50, 51, 52, 53, 54, 55, 56, 57, 58, 59] rfl rfl (by decide) rfl (by decide) (by decide) (ci := 10) (q0 := 0) rfl rfl rfl hl.1 rfl (Nat.le_of_ble_eq_true rfl) dL_law_786 ⟨by show 60 + (j + 1) ≤ 1087; omega, by show 5141 + 6 * (j + 1) ≤ 13351; omega⟩ (fun H locs hP hD hS => ?_)
    replace hP : va_P D vwCl (wM cI cZ am v' ++ wL cI cZ cJ ad o (vp_updL f (0 : Int32).toNatClampNeg r.toInt64) u') H := hP.sub [36, 37, 38, 39, 40, 41, 42, 43, 44, 45, 46, 47, 48, 49, 50, 51, 52, 53, 54, 55, 56, 57, 58, 59, 0, 1, 2, 3, 4, 5, 6, 7, 8, 9, 10, 11, 12, 13, 14, 15, 16, 17, 18, 19, 20, 21, 22, 23, 24, 25, 26, 27, 28, 29, 30, 31, 32, 33, 34, 35] rfl
    replace hD : va_D (fun q : Nat => s.heap.size ≤ q) (wM cI cZ am v' ++ wL cI cZ cJ ad o (vp_updL f (0 : Int32).toNatClampNeg r.toInt64) u') := hD.sub [36, 37, 38, 39, 40, 41, 42, 43, 44, 45, 46, 47, 48, 49, 50, 51, 52, 53, 54, 55, 56, 57, 58, 59, 0, 1, 2, 3, 4, 5, 6, 7, 8, 9, 10, 11, 12, 13, 14, 15, 16, 17, 18, 19, 20, 21, 22, 23, 24, 25, 26, 27, 28, 29, 30, 31, 32, 33, 34, 35] (by decide) rfl
    refine lv_iload hx hb dL_law_789 (lv_at hl 1 rfl) ?_
    refine lv_icmp_eq (tgt := 796) hx hb dL_law_791 (by decide) (fun _ => ?_) (fun c1 => absurd ht c1)
    refine lv_iload hx hb dL_law_796 (lv_at hl 1 rfl) ?_
    refine lv_if_ne (tgt := 813) hx hb dL_law_798 (by decide) (fun c1 => absurd rfl c1) (fun _ => ?_)
    refine lv_aload_n hx hb dL_law_801 rfl (lv_at hl 5 rfl) ?_
    refine lv_iconst (v := 0) hx hb dL_law_802 (by decide) ?_
    refine va_lald (D := D) hx hb hK hP 24 2 rfl rfl (by unfold vp_in; decide) dL_law_803 ?_
    refine lv_iload hx hb dL_law_804 (lv_at hl 0 rfl) ?_
    refine lv_i2l (v := r.toInt64) hx hb dL_law_806 rfl ?_
    refine W.lcmp hx hb dL_law_807 ?_
    refine lv_if_eq (tgt := 813) hx hb dL_law_808 (by decide) (fun _ => ?_) (fun c2 => absurd (by simp [lg_cmp, vp_updL]) c2)
    refine lv_goto (tgt := 1764) hx hb dL_law_813 (by decide) ?_
    exact kk _ _ _ _ _ ls hrel hP hD hS (lv_sub hl [2, 3, 4, 5, 6] rfl)
  · rcases List.mem_cons.mp hq with rfl | hq
    · refine lv_aload_n hx hb dL_law_748 rfl (lv_at hl 1 rfl) ?_
      refine lv_aload_n hx hb dL_law_749 rfl (lv_at hl 0 rfl) ?_
      refine lv_iload hx hb dL_law_750 (lv_at hl 4 rfl) ?_
      refine lv_iconst (v := 1) hx hb dL_law_752 (by decide) ?_
      refine lv_iadd hx hb dL_law_753 ?_
      refine va_sld hx hb hX hbl hbA hS hi1 dL_law_754 ?_
      refine lv_topn hp1 ?_
      refine lv_aload_n hx hb dL_law_755 rfl (lv_at hl 0 rfl) ?_
      refine lv_iload hx hb dL_law_756 (lv_at hl 4 rfl) ?_
      refine lv_iconst (v := 2) hx hb dL_law_758 (by decide) ?_
      refine lv_iadd hx hb dL_law_759 ?_
      refine va_sld hx hb hX hbl hbA hS hi2 dL_law_760 ?_
      refine lv_topn hp2 ?_
      refine lv_aload_n hx hb dL_law_761 rfl (lv_at hl 3 rfl) ?_
      refine cc_iSHF (As := [.ref (ad 0), .int p1, .int p2, .ref o]) (rest := []) (wr := wM cI cZ am v) ⟨hx, hb, hml, hown, hts⟩ (kx1_L_sign l hl0 D cI cZ cJ ad o f u p1 p2 hc) (vx_cwSW 4 hts (gwSH mw_669 mw_670 mw_47 mw_671) rfl rfl rfl (by decide +kernel) ⟨(Nat.le_of_ble_eq_true rfl), (Nat.le_of_ble_eq_true rfl)⟩) hK hP hD hS hA hZ [24, 25, 26, 27, 28, 29, 30, 31, 32, 33, 34, 35, 36, 37, 38, 39, 40, 41, 42, 43, 44, 45, 46, 47, 48, 49, 50, 51, 52, 53, 54, 55, 56, 57, 58, 59] [0, 1, 2, 3, 4, 5, 6, 7, 8, 9, 10, 11, 12, 13, 14, 15, 16, 17, 18, 19, 20, 21, 22, 23] rfl rfl (by decide) rfl (by decide) (by decide) rfl hl.1 rfl (Nat.le_of_ble_eq_true rfl) dL_law_762 ⟨by show 60 + j + 1 ≤ 1087; omega, by show 5141 + 6 * j + 6 ≤ 13351; omega⟩ (fun H locs hP hD hS => ?_)
      replace hP : va_P D vwCl (wM cI cZ am v ++ wL cI cZ cJ ad o f u') H := hP
      replace hD : va_D (fun q : Nat => s.heap.size ≤ q) (wM cI cZ am v ++ wL cI cZ cJ ad o f u') := hD
      refine W.widen (k := 60 + (j + 1)) (n := 5141 + 6 * (j + 1)) (by omega) (by omega) ?_
      refine lv_istore (lv' := [(5, .int 1), (0, .ref b), (1, .ref (ad 0)), (2, .ref (am 0)), (3, .ref o), (4, .int i)]) hx hb dL_law_765 hl (by decide) rfl (fun ls hl => ?_)
      refine lv_aload_n hx hb dL_law_767 rfl (lv_at hl 3 rfl) ?_
      refine lv_aload_n hx hb dL_law_768 rfl (lv_at hl 1 rfl) ?_
      refine lv_iload hx hb dL_law_769 (lv_at hl 5 rfl) ?_
      refine lv_iconst (v := 1) hx hb dL_law_771 (by decide) ?_
      refine lv_iadd hx hb dL_law_772 ?_
      refine va_sld hx hb hX hbl hbA hS hi1 dL_law_773 ?_
      refine lv_topn hp1 ?_
      refine lv_aload_n hx hb dL_law_774 rfl (lv_at hl 1 rfl) ?_
      refine lv_iload hx hb dL_law_775 (lv_at hl 5 rfl) ?_
      refine lv_iconst (v := 2) hx hb dL_law_777 (by decide) ?_
      refine lv_iadd hx hb dL_law_778 ?_
      refine va_sld hx hb hX hbl hbA hS hi2 dL_law_779 ?_
      refine lv_topn hp2 ?_
      refine cc_iVF (As := [.int p1, .int p2]) (rest := []) (wr := wL cI cZ cJ ad o f u') ⟨hx, hb, hml, hown, hts⟩ (k_X10_sign l D cI cZ am v p1 p2 hm) (cwV 2 hts (gwV mw_1066 mw_1067 mw_1068 mw_59 mw_1069) rfl rfl rfl (by decide +kernel) ⟨(Nat.le_of_ble_eq_true rfl), (Nat.le_of_ble_eq_true rfl)⟩) (hK.sub [0, 1] rfl) hP hD hS hA hZ [0, 1, 2, 3, 4, 5, 6, 7, 8, 9, 10, 11, 12, 13, 14, 15, 16, 17, 18, 19, 20, 21, 22, 23] [24, 25, 26, 27, 28, 29, 30, 31, 32, 33, 34, 35, 36, 37, 38, 39, 40, 41, 42, 43, 44, 45, 46, 47, 48, 49, 50, 51, 52, 53, 54, 55, 56, 57, 58, 59] rfl rfl (by decide) rfl (by decide) (by decide) (ci := 10) (q0 := 0) rfl rfl rfl hl.1 rfl (Nat.le_of_ble_eq_true rfl) dL_law_780 ⟨by show 60 + (j + 1) ≤ 1087; omega, by show 5141 + 6 * (j + 1) ≤ 13351; omega⟩ (fun H locs hP hD hS => ?_)
      replace hP : va_P D vwCl (wM cI cZ am v' ++ wL cI cZ cJ ad o f u') H := hP.sub [36, 37, 38, 39, 40, 41, 42, 43, 44, 45, 46, 47, 48, 49, 50, 51, 52, 53, 54, 55, 56, 57, 58, 59, 0, 1, 2, 3, 4, 5, 6, 7, 8, 9, 10, 11, 12, 13, 14, 15, 16, 17, 18, 19, 20, 21, 22, 23, 24, 25, 26, 27, 28, 29, 30, 31, 32, 33, 34, 35] rfl
      replace hD : va_D (fun q : Nat => s.heap.size ≤ q) (wM cI cZ am v' ++ wL cI cZ cJ ad o f u') := hD.sub [36, 37, 38, 39, 40, 41, 42, 43, 44, 45, 46, 47, 48, 49, 50, 51, 52, 53, 54, 55, 56, 57, 58, 59, 0, 1, 2, 3, 4, 5, 6, 7, 8, 9, 10, 11, 12, 13, 14, 15, 16, 17, 18, 19, 20, 21, 22, 23, 24, 25, 26, 27, 28, 29, 30, 31, 32, 33, 34, 35] (by decide) rfl
      refine lv_istore (lv' := [(6, .int b9), (5, .int 1), (0, .ref b), (1, .ref (ad 0)), (2, .ref (am 0)), (3, .ref o), (4, .int i)]) hx hb dL_law_783 hl (by decide) rfl (fun ls hl => ?_)
      refine lv_aload_n hx hb dL_law_785 rfl (lv_at hl 4 rfl) ?_
      refine cc_iVF (As := []) (rest := []) (wr := wL cI cZ cJ ad o f u') ⟨hx, hb, hml, hown, hts⟩ (k_X10_thrown l D cI cZ am v' rfl) (cwV 0 hts (gwV mw_968 mw_969 mw_970 mw_59 mw_971) rfl rfl rfl (by decide +kernel) ⟨(Nat.le_of_ble_eq_true rfl), (Nat.le_of_ble_eq_true rfl)⟩) (hK.sub [0, 1] rfl) hP hD hS hA hZ [0, 1, 2, 3, 4, 5, 6, 7, 8, 9, 10, 11, 12, 13, 14, 15, 16, 17, 18, 19, 20, 21, 22, 23] [24, 25, 26, 27, 28, 29, 30, 31, 32, 33, 34, 35, 36, 37, 38, 39, 40, 41, 42, 43, 44, 45, 46, 47, 48, 49, 50, 51, 52, 53, 54, 55, 56, 57, 58, 59] rfl rfl (by decide) rfl (by decide) (by decide) (ci := 10) (q0 := 0) rfl rfl rfl hl.1 rfl (Nat.le_of_ble_eq_true rfl) dL_law_786 ⟨by show 60 + (j + 1) ≤ 1087; omega, by show 5141 + 6 * (j + 1) ≤ 13351; omega⟩ (fun H locs hP hD hS => ?_)
      replace hP : va_P D vwCl (wM cI cZ am v' ++ wL cI cZ cJ ad o f u') H := hP.sub [36, 37, 38, 39, 40, 41, 42, 43, 44, 45, 46, 47, 48, 49, 50, 51, 52, 53, 54, 55, 56, 57, 58, 59, 0, 1, 2, 3, 4, 5, 6, 7, 8, 9, 10, 11, 12, 13, 14, 15, 16, 17, 18, 19, 20, 21, 22, 23, 24, 25, 26, 27, 28, 29, 30, 31, 32, 33, 34, 35] rfl
      replace hD : va_D (fun q : Nat => s.heap.size ≤ q) (wM cI cZ am v' ++ wL cI cZ cJ ad o f u') := hD.sub [36, 37, 38, 39, 40, 41, 42, 43, 44, 45, 46, 47, 48, 49, 50, 51, 52, 53, 54, 55, 56, 57, 58, 59, 0, 1, 2, 3, 4, 5, 6, 7, 8, 9, 10, 11, 12, 13, 14, 15, 16, 17, 18, 19, 20, 21, 22, 23, 24, 25, 26, 27, 28, 29, 30, 31, 32, 33, 34, 35] (by decide) rfl
      refine lv_iload hx hb dL_law_789 (lv_at hl 1 rfl) ?_
      refine lv_icmp_eq (tgt := 796) hx hb dL_law_791 (by decide) (fun _ => ?_) (fun c1 => absurd ht c1)
      refine lv_iload hx hb dL_law_796 (lv_at hl 1 rfl) ?_
      refine lv_if_ne (tgt := 813) hx hb dL_law_798 (by decide) (fun _ => ?_) (fun c1 => absurd c1 (by decide))
      refine lv_goto (tgt := 1764) hx hb dL_law_813 (by decide) ?_
      exact kk _ _ _ _ _ ls hrel hP hD hS (lv_sub hl [2, 3, 4, 5, 6] rfl)
    · exact absurd hq List.not_mem_nil

set_option maxHeartbeats 4000000 in
set_option maxRecDepth 100000 in
theorem lc_isLawful {p : Program} {l : Launch} {e : Env} {s : State} {m : MethodId} {below : List Frame} {meth : Method} {c : Code} {b L : Nat} {xs : Nat → Int32} (hl0 : l.stackTraces = false) (C0 : lw_At p s m meth c b L xs) (hZ : cst (fun q : Nat => s.heap.size ≤ q) s) {D : va_G} {cI cZ cJ : ClassId} (hK : va_K D vwCl [(cI, .int), (cZ, .boolean), (cJ, .long)] s) {Rel : GS → MS → Prop} {am ad : Nat → Nat} {o : Nat} {f : Nat → Int64} {u : GS} {v : MS} {i : Int32} {j : Nat} (hj : j ≤ 511) (hi : lin i L) (hsim : ∃ (r : Int32) (u' : GS) (v' : MS), g_X9_isLawful u = some (r, u') ∧ g_X10_isLawful v = some (r, v') ∧ Rel u' v') {H : Heap} {locs : List Loc} {ls : Array Slot} (hP : va_P D vwCl (wM cI cZ am v ++ wL cI cZ cJ ad o f u) H) (hD : va_D (fun q : Nat => s.heap.size ≤ q) (wM cI cZ am v ++ wL cI cZ cJ ad o f u)) (hS : va_S (fun q : Nat => s.heap.size ≤ q) s.heap H locs) (hl : lv_has ls 7 [(0, .ref b), (1, .ref (ad 0)), (2, .ref (am 0)), (3, .ref o), (4, .int i)]) (kk : ∀ (u' : GS) (v' : MS) (f' : Nat → Int64) (H : Heap) (locs : List Loc) (ls : Array Slot), Rel u' v' → va_P D vwCl (wM cI cZ am v' ++ wL cI cZ cJ ad o f' u') H → va_D (fun q : Nat => s.heap.size ≤ q) (wM cI cZ am v' ++ wL cI cZ cJ ad o f' u') → va_S (fun q : Nat => s.heap.size ≤ q) s.heap H locs → lv_has ls 7 [(0, .ref b), (1, .ref (ad 0)), (2, .ref (am 0)), (3, .ref o), (4, .int i)] → W p l e room_1 s m #[Value.ref b] below meth c H locs (60 + (j + 1)) (5141 + 6 * (j + 1)) (lw_Z below #[Value.ref b] s) (F0 m 1764 ls [])) : W p l e room_1 s m #[Value.ref b] below meth c H locs (60 + j) (5141 + 6 * j) (lw_Z below #[Value.ref b] s) (F0 m 816 ls []) := by
  obtain ⟨hx, hb, hr, hml, hown, hts0, hX, hbl, hlocks, hgv⟩ := id C0
  have hts : ∀ w ∈ Wall, w.before #[Value.ref b] s = true := fun w h => hts0 w (wall_tbl w h)
  have hA : ∀ q : Nat, s.heap.size ≤ q → (fun q : Nat => s.heap.size ≤ q) q := fun _ h => h
  have hbA : ¬ (fun q : Nat => s.heap.size ≤ q) b := Nat.not_le.mpr hbl
  obtain ⟨r, u', v', hc, hm, hrel⟩ := hsim
  refine lv_aload_n hx hb dL_law_816 rfl (lv_at hl 1 rfl) ?_
  refine cc_iVF (As := []) (rest := []) (wr := (wM cI cZ am v ++ [(o, .inl (cJ, 1, .inr (.inl f)))])) ⟨hx, hb, hml, hown, hts⟩ (k_X9_isLawful l D cI cZ ad u hc) (cwV 0 hts (gwV mw_335 mw_336 mw_337 mw_48 mw_338) rfl rfl rfl (by decide +kernel) ⟨(Nat.le_of_ble_eq_true rfl), (Nat.le_of_ble_eq_true rfl)⟩) (hK.sub [0, 1] rfl) hP hD hS hA hZ [25, 26, 27, 28, 29, 30, 31, 32, 33, 34, 35, 36, 37, 38, 39, 40, 41, 42, 43, 44, 45, 46, 47, 48, 49, 50, 51, 52, 53, 54, 55, 56, 57, 58, 59] [0, 1, 2, 3, 4, 5, 6, 7, 8, 9, 10, 11, 12, 13, 14, 15, 16, 17, 18, 19, 20, 21, 22, 23, 24] rfl rfl (by decide) rfl (by decide) (by decide) (ci := 9) (q0 := 0) rfl rfl rfl hl.1 rfl (Nat.le_of_ble_eq_true rfl) dL_law_817 ⟨by show 60 + j ≤ 1087; omega, by show 5141 + 6 * j ≤ 13351; omega⟩ (fun H locs hP hD hS => ?_)
  replace hP : va_P D vwCl (wM cI cZ am v ++ wL cI cZ cJ ad o f u') H := hP
  replace hD : va_D (fun q : Nat => s.heap.size ≤ q) (wM cI cZ am v ++ wL cI cZ cJ ad o f u') := hD
  refine W.widen (k := 60 + (j + 1)) (n := 5141 + 6 * (j + 1)) (by omega) (by omega) ?_
  refine lv_aload_n hx hb dL_law_820 rfl (lv_at hl 2 rfl) ?_
  refine cc_iVF (As := []) (rest := [.int r]) (wr := wL cI cZ cJ ad o f u') ⟨hx, hb, hml, hown, hts⟩ (k_X10_isLawful l D cI cZ am v hm) (cwV 0 hts (gwV mw_1070 mw_1071 mw_1072 mw_59 mw_1073) rfl rfl rfl (by decide +kernel) ⟨(Nat.le_of_ble_eq_true rfl), (Nat.le_of_ble_eq_true rfl)⟩) (hK.sub [0, 1] rfl) hP hD hS hA hZ [0, 1, 2, 3, 4, 5, 6, 7, 8, 9, 10, 11, 12, 13, 14, 15, 16, 17, 18, 19, 20, 21, 22, 23] [24, 25, 26, 27, 28, 29, 30, 31, 32, 33, 34, 35, 36, 37, 38, 39, 40, 41, 42, 43, 44, 45, 46, 47, 48, 49, 50, 51, 52, 53, 54, 55, 56, 57, 58, 59] rfl rfl (by decide) rfl (by decide) (by decide) (ci := 10) (q0 := 0) rfl rfl rfl hl.1 rfl (Nat.le_of_ble_eq_true rfl) dL_law_821 ⟨by show 60 + (j + 1) ≤ 1087; omega, by show 5141 + 6 * (j + 1) ≤ 13351; omega⟩ (fun H locs hP hD hS => ?_)
  replace hP : va_P D vwCl (wM cI cZ am v' ++ wL cI cZ cJ ad o f u') H := hP.sub [36, 37, 38, 39, 40, 41, 42, 43, 44, 45, 46, 47, 48, 49, 50, 51, 52, 53, 54, 55, 56, 57, 58, 59, 0, 1, 2, 3, 4, 5, 6, 7, 8, 9, 10, 11, 12, 13, 14, 15, 16, 17, 18, 19, 20, 21, 22, 23, 24, 25, 26, 27, 28, 29, 30, 31, 32, 33, 34, 35] rfl
  replace hD : va_D (fun q : Nat => s.heap.size ≤ q) (wM cI cZ am v' ++ wL cI cZ cJ ad o f u') := hD.sub [36, 37, 38, 39, 40, 41, 42, 43, 44, 45, 46, 47, 48, 49, 50, 51, 52, 53, 54, 55, 56, 57, 58, 59, 0, 1, 2, 3, 4, 5, 6, 7, 8, 9, 10, 11, 12, 13, 14, 15, 16, 17, 18, 19, 20, 21, 22, 23, 24, 25, 26, 27, 28, 29, 30, 31, 32, 33, 34, 35] (by decide) rfl
  refine lv_icmp_eq (tgt := 1764) hx hb dL_law_824 (by decide) (fun _ => ?_) (fun c1 => absurd rfl c1)
  exact kk _ _ _ _ _ ls hrel hP hD hS (lv_sub hl [0, 1, 2, 3, 4] rfl)

set_option maxHeartbeats 4000000 in
set_option maxRecDepth 100000 in
theorem lc_look {p : Program} {l : Launch} {e : Env} {s : State} {m : MethodId} {below : List Frame} {meth : Method} {c : Code} {b L : Nat} {xs : Nat → Int32} (hl0 : l.stackTraces = false) (C0 : lw_At p s m meth c b L xs) (hZ : cst (fun q : Nat => s.heap.size ≤ q) s) {D : va_G} {cI cZ cJ : ClassId} (hK : va_K D vwCl [(cI, .int), (cZ, .boolean), (cJ, .long)] s) {Rel : GS → MS → Prop} {am ad : Nat → Nat} {o : Nat} {f : Nat → Int64} {u : GS} {v : MS} {i : Int32} {j : Nat} (hj : j ≤ 511) (hi : lin i L) {p1 : Int32} (hp1 : xs (i + 1).toNatClampNeg = p1) (hsim : SI Rel (g_X9_look u p1) (g_X10_look v p1) [("java/lang/IndexOutOfBoundsException", 1)]) {H : Heap} {locs : List Loc} {ls : Array Slot} (hP : va_P D vwCl (wM cI cZ am v ++ wL cI cZ cJ ad o f u) H) (hD : va_D (fun q : Nat => s.heap.size ≤ q) (wM cI cZ am v ++ wL cI cZ cJ ad o f u)) (hS : va_S (fun q : Nat => s.heap.size ≤ q) s.heap H locs) (hl : lv_has ls 7 [(0, .ref b), (1, .ref (ad 0)), (2, .ref (am 0)), (3, .ref o), (4, .int i)]) (kk : ∀ (u' : GS) (v' : MS) (f' : Nat → Int64) (H : Heap) (locs : List Loc) (ls : Array Slot), Rel u' v' → va_P D vwCl (wM cI cZ am v' ++ wL cI cZ cJ ad o f' u') H → va_D (fun q : Nat => s.heap.size ≤ q) (wM cI cZ am v' ++ wL cI cZ cJ ad o f' u') → va_S (fun q : Nat => s.heap.size ≤ q) s.heap H locs → lv_has ls 7 [(0, .ref b), (1, .ref (ad 0)), (2, .ref (am 0)), (3, .ref o), (4, .int i)] → W p l e room_1 s m #[Value.ref b] below meth c H locs (60 + (j + 1)) (5141 + 6 * (j + 1)) (lw_Z below #[Value.ref b] s) (F0 m 1764 ls [])) : W p l e room_1 s m #[Value.ref b] below meth c H locs (60 + j) (5141 + 6 * j) (lw_Z below #[Value.ref b] s) (F0 m 829 ls []) := by
  obtain ⟨hx, hb, hr, hml, hown, hts0, hX, hbl, hlocks, hgv⟩ := id C0
  have hts : ∀ w ∈ Wall, w.before #[Value.ref b] s = true := fun w h => hts0 w (wall_tbl w h)
  have hA : ∀ q : Nat, s.heap.size ≤ q → (fun q : Nat => s.heap.size ≤ q) q := fun _ h => h
  have hbA : ¬ (fun q : Nat => s.heap.size ≤ q) b := Nat.not_le.mpr hbl
  obtain ⟨-, hi1, hi2, hi3, hi4, hi5⟩ := hi
  rcases hsim with ⟨r, u', v', hc, hm, ht, hrel⟩ | ⟨q, u', b9, v', hq, hc, hm, ht, hrel⟩
  · refine lv_aload_n hx hb dL_law_829 rfl (lv_at hl 1 rfl) ?_
    refine lv_aload_n hx hb dL_law_830 rfl (lv_at hl 0 rfl) ?_
    refine lv_iload hx hb dL_law_831 (lv_at hl 4 rfl) ?_
    refine lv_iconst (v := 1) hx hb dL_law_833 (by decide) ?_
    refine lv_iadd hx hb dL_law_834 ?_
    refine va_sld hx hb hX hbl hbA hS hi1 dL_law_835 ?_
    refine lv_topn hp1 ?_
    refine lv_aload_n hx hb dL_law_836 rfl (lv_at hl 3 rfl) ?_
    refine cc_iSHF (As := [.ref (ad 0), .int p1, .ref o]) (rest := []) (wr := wM cI cZ am v) ⟨hx, hb, hml, hown, hts⟩ (k_L_look l D cI cZ cJ ad o f u p1 hc) (vx_cwSW 3 hts (gwSH mw_676 mw_677 mw_47 mw_678) rfl rfl rfl (by decide +kernel) ⟨(Nat.le_of_ble_eq_true rfl), (Nat.le_of_ble_eq_true rfl)⟩) hK hP hD hS hA hZ [24, 25, 26, 27, 28, 29, 30, 31, 32, 33, 34, 35, 36, 37, 38, 39, 40, 41, 42, 43, 44, 45, 46, 47, 48, 49, 50, 51, 52, 53, 54, 55, 56, 57, 58, 59] [0, 1, 2, 3, 4, 5, 6, 7, 8, 9, 10, 11, 12, 13, 14, 15, 16, 17, 18, 19, 20, 21, 22, 23] rfl rfl (by decide) rfl (by decide) (by decide) rfl hl.1 rfl (Nat.le_of_ble_eq_true rfl) dL_law_837 ⟨by show 60 + j ≤ 1087; omega, by show 5141 + 6 * j ≤ 13351; omega⟩ (fun H locs hP hD hS => ?_)
    replace hP : va_P D vwCl (wM cI cZ am v ++ wL cI cZ cJ ad o (vp_updL f (0 : Int32).toNatClampNeg (if r = 0 then 0 else 1)) u') H := hP
    replace hD : va_D (fun q : Nat => s.heap.size ≤ q) (wM cI cZ am v ++ wL cI cZ cJ ad o (vp_updL f (0 : Int32).toNatClampNeg (if r = 0 then 0 else 1)) u') := hD
    refine W.widen (k := 60 + (j + 1)) (n := 5141 + 6 * (j + 1)) (by omega) (by omega) ?_
    refine lv_istore (lv' := [(5, .int 0), (0, .ref b), (1, .ref (ad 0)), (2, .ref (am 0)), (3, .ref o), (4, .int i)]) hx hb dL_law_840 hl (by decide) rfl (fun ls hl => ?_)
    refine lv_aload_n hx hb dL_law_842 rfl (lv_at hl 3 rfl) ?_
    refine lv_aload_n hx hb dL_law_843 rfl (lv_at hl 1 rfl) ?_
    refine lv_iload hx hb dL_law_844 (lv_at hl 5 rfl) ?_
    refine lv_iconst (v := 1) hx hb dL_law_846 (by decide) ?_
    refine lv_iadd hx hb dL_law_847 ?_
    refine va_sld hx hb hX hbl hbA hS hi1 dL_law_848 ?_
    refine lv_topn hp1 ?_
    refine cc_iVF (As := [.int p1]) (rest := []) (wr := wL cI cZ cJ ad o (vp_updL f (0 : Int32).toNatClampNeg (if r = 0 then 0 else 1)) u') ⟨hx, hb, hml, hown, hts⟩ (k_X10_look l D cI cZ am v p1 hm) (cwV 1 hts (gwV mw_1074 mw_1075 mw_1076 mw_59 mw_1077) rfl rfl rfl (by decide +kernel) ⟨(Nat.le_of_ble_eq_true rfl), (Nat.le_of_ble_eq_true rfl)⟩) (hK.sub [0, 1] rfl) hP hD hS hA hZ [0, 1, 2, 3, 4, 5, 6, 7, 8, 9, 10, 11, 12, 13, 14, 15, 16, 17, 18, 19, 20, 21, 22, 23] [24, 25, 26, 27, 28, 29, 30, 31, 32, 33, 34, 35, 36, 37, 38, 39, 40, 41, 42, 43, 44, 45, 46, 47, 48, 49, 50, 51, 52, 53, 54, 55, 56, 57, 58, 59] rfl rfl (by decide) rfl (by decide) (by decide) (ci := 10) (q0 := 0) rfl rfl rfl hl.1 rfl (Nat.le_of_ble_eq_true rfl) dL_law_849 ⟨by show 60 + (j + 1) ≤ 1087; omega, by show 5141 + 6 * (j + 1) ≤ 13351; omega⟩ (fun H locs hP hD hS => ?_)
    replace hP : va_P D vwCl (wM cI cZ am v' ++ wL cI cZ cJ ad o (vp_updL f (0 : Int32).toNatClampNeg (if r = 0 then 0 else 1)) u') H := hP.sub [36, 37, 38, 39, 40, 41, 42, 43, 44, 45, 46, 47, 48, 49, 50, 51, 52, 53, 54, 55, 56, 57, 58, 59, 0, 1, 2, 3, 4, 5, 6, 7, 8, 9, 10, 11, 12, 13, 14, 15, 16, 17, 18, 19, 20, 21, 22, 23, 24, 25, 26, 27, 28, 29, 30, 31, 32, 33, 34, 35] rfl
    replace hD : va_D (fun q : Nat => s.heap.size ≤ q) (wM cI cZ am v' ++ wL cI cZ cJ ad o (vp_updL f (0 : Int32).toNatClampNeg (if r = 0 then 0 else 1)) u') := hD.sub [36, 37, 38, 39, 40, 41, 42, 43, 44, 45, 46, 47, 48, 49, 50, 51, 52, 53, 54, 55, 56, 57, 58, 59, 0, 1, 2, 3, 4, 5, 6, 7, 8, 9, 10, 11, 12, 13, 14, 15, 16, 17, 18, 19, 20, 21, 22, 23, 24, 25, 26, 27, 28, 29, 30, 31, 32, 33, 34, 35] (by decide) rfl
    refine lv_istore (lv' := [(6, .int r), (5, .int 0), (0, .ref b), (1, .ref (ad 0)), (2, .ref (am 0)), (3, .ref o), (4, .int i)]) hx hb dL_law_852 hl (by decide) rfl (fun ls hl => ?_)
    refine lv_aload_n hx hb dL_law_854 rfl (lv_at hl 4 rfl) ?_
    refine cc_iVF (As := []) (rest := []) (wr := wL cI cZ cJ ad o (vp_updL f (0 : Int32).toNatClampNeg (if r = 0 then 0 else 1)) u') ⟨hx, hb, hml, hown, hts⟩ (k_X10_thrown l D cI cZ am v' rfl) (cwV 0 hts (gwV mw_968 mw_969 mw_970 mw_59 mw_971) rfl rfl rfl (by decide +kernel) ⟨(Nat.le_of_ble_eq_true rfl), (Nat.le_of_ble_eq_true rfl)⟩) (hK.sub [0, 1] rfl) hP hD hS hA hZ [0, 1, 2, 3, 4, 5, 6, 7, 8, 9, 10, 11, 12, 13, 14, 15, 16, 17, 18, 19, 20, 21, 22, 23] [24, 25, 26, 27, 28, 29, 30, 31, 32, 33, 34, 35, 36, 37, 38, 39, 40, 41, 42, 43, 44, 45, 46, 47, 48, 49, 50, 51, 52, 53, 54, 55, 56, 57, 58, 59] rfl rfl (by decide) rfl (by decide) (by decide) (ci := 10) (q0 := 0) rfl rfl rfl hl.1 rfl (Nat.le_of_ble_eq_true rfl) dL_law_855 ⟨by show 60 + (j + 1) ≤ 1087; omega, by show 5141 + 6 * (j + 1) ≤ 13351; omega⟩ (fun H locs hP hD hS => ?_)
    replace hP : va_P D vwCl (wM cI cZ am v' ++ wL cI cZ cJ ad o (vp_updL f (0 : Int32).toNatClampNeg (if r = 0 then 0 else 1)) u') H := hP.sub [36, 37, 38, 39, 40, 41, 42, 43, 44, 45, 46, 47, 48, 49, 50, 51, 52, 53, 54, 55, 56, 57, 58, 59, 0, 1, 2, 3, 4, 5, 6, 7, 8, 9, 10, 11, 12, 13, 14, 15, 16, 17, 18, 19, 20, 21, 22, 23, 24, 25, 26, 27, 28, 29, 30, 31, 32, 33, 34, 35] rfl
    replace hD : va_D (fun q : Nat => s.heap.size ≤ q) (wM cI cZ am v' ++ wL cI cZ cJ ad o (vp_updL f (0 : Int32).toNatClampNeg (if r = 0 then 0 else 1)) u') := hD.sub [36, 37, 38, 39, 40, 41, 42, 43, 44, 45, 46, 47, 48, 49, 50, 51, 52, 53, 54, 55, 56, 57, 58, 59, 0, 1, 2, 3, 4, 5, 6, 7, 8, 9, 10, 11, 12, 13, 14, 15, 16, 17, 18, 19, 20, 21, 22, 23, 24, 25, 26, 27, 28, 29, 30, 31, 32, 33, 34, 35] (by decide) rfl
    refine lv_iload hx hb dL_law_858 (lv_at hl 1 rfl) ?_
    refine lv_icmp_eq (tgt := 865) hx hb dL_law_860 (by decide) (fun _ => ?_) (fun c1 => absurd ht c1)
    refine lv_iload hx hb dL_law_865 (lv_at hl 1 rfl) ?_
    refine lv_if_ne (tgt := 889) hx hb dL_law_867 (by decide) (fun c1 => absurd rfl c1) (fun _ => ?_)
    refine lv_aload_n hx hb dL_law_870 rfl (lv_at hl 5 rfl) ?_
    refine lv_iconst (v := 0) hx hb dL_law_871 (by decide) ?_
    refine va_lald (D := D) hx hb hK hP 24 2 rfl rfl (by unfold vp_in; decide) dL_law_872 ?_
    refine lv_iload hx hb dL_law_873 (lv_at hl 0 rfl) ?_
    refine lv_if_eq (tgt := 882) hx hb dL_law_875 (by decide) (fun c3 => ?_) (fun c3 => ?_)
    · refine lv_lconst (v := 0) hx hb dL_law_882 (by decide) ?_
      refine W.lcmp hx hb dL_law_883 ?_
      refine lv_if_eq (tgt := 889) hx hb dL_law_884 (by decide) (fun _ => ?_) (fun c2 => absurd (by simp [lg_cmp, vp_updL, c3]) c2)
      refine lv_goto (tgt := 1764) hx hb dL_law_889 (by decide) ?_
      exact kk _ _ _ _ _ ls hrel hP hD hS (lv_sub hl [2, 3, 4, 5, 6] rfl)
    · refine lv_lconst (v := 1) hx hb dL_law_878 (by decide) ?_
      refine lv_goto (tgt := 883) hx hb dL_law_879 (by decide) ?_
      refine W.lcmp hx hb dL_law_883 ?_
      refine lv_if_eq (tgt := 889) hx hb dL_law_884 (by decide) (fun _ => ?_) (fun c2 => absurd (by simp [lg_cmp, vp_updL, c3]) c2)
      refine lv_goto (tgt := 1764) hx hb dL_law_889 (by decide) ?_
      exact kk _ _ _ _ _ ls hrel hP hD hS (lv_sub hl [2, 3, 4, 5, 6] rfl)
  · rcases List.mem_cons.mp hq with rfl | hq
    · refine lv_aload_n hx hb dL_law_829 rfl (lv_at hl 1 rfl) ?_
      refine lv_aload_n hx hb dL_law_830 rfl (lv_at hl 0 rfl) ?_
      refine lv_iload hx hb dL_law_831 (lv_at hl 4 rfl) ?_
      refine lv_iconst (v := 1) hx hb dL_law_833 (by decide) ?_
      refine lv_iadd hx hb dL_law_834 ?_
      refine va_sld hx hb hX hbl hbA hS hi1 dL_law_835 ?_
      refine lv_topn hp1 ?_
      refine lv_aload_n hx hb dL_law_836 rfl (lv_at hl 3 rfl) ?_
      refine cc_iSHF (As := [.ref (ad 0), .int p1, .ref o]) (rest := []) (wr := wM cI cZ am v) ⟨hx, hb, hml, hown, hts⟩ (kx1_L_look l hl0 D cI cZ cJ ad o f u p1 hc) (vx_cwSW 3 hts (gwSH mw_676 mw_677 mw_47 mw_678) rfl rfl rfl (by decide +kernel) ⟨(Nat.le_of_ble_eq_true rfl), (Nat.le_of_ble_eq_true rfl)⟩) hK hP hD hS hA hZ [24, 25, 26, 27, 28, 29, 30, 31, 32, 33, 34, 35, 36, 37, 38, 39, 40, 41, 42, 43, 44, 45, 46, 47, 48, 49, 50, 51, 52, 53, 54, 55, 56, 57, 58, 59] [0, 1, 2, 3, 4, 5, 6, 7, 8, 9, 10, 11, 12, 13, 14, 15, 16, 17, 18, 19, 20, 21, 22, 23] rfl rfl (by decide) rfl (by decide) (by decide) rfl hl.1 rfl (Nat.le_of_ble_eq_true rfl) dL_law_837 ⟨by show 60 + j + 1 ≤ 1087; omega, by show 5141 + 6 * j + 6 ≤ 13351; omega⟩ (fun H locs hP hD hS => ?_)
      replace hP : va_P D vwCl (wM cI cZ am v ++ wL cI cZ cJ ad o f u') H := hP
      replace hD : va_D (fun q : Nat => s.heap.size ≤ q) (wM cI cZ am v ++ wL cI cZ cJ ad o f u') := hD
      refine W.widen (k := 60 + (j + 1)) (n := 5141 + 6 * (j + 1)) (by omega) (by omega) ?_
      refine lv_istore (lv' := [(5, .int 1), (0, .ref b), (1, .ref (ad 0)), (2, .ref (am 0)), (3, .ref o), (4, .int i)]) hx hb dL_law_840 hl (by decide) rfl (fun ls hl => ?_)
      refine lv_aload_n hx hb dL_law_842 rfl (lv_at hl 3 rfl) ?_
      refine lv_aload_n hx hb dL_law_843 rfl (lv_at hl 1 rfl) ?_
      refine lv_iload hx hb dL_law_844 (lv_at hl 5 rfl) ?_
      refine lv_iconst (v := 1) hx hb dL_law_846 (by decide) ?_
      refine lv_iadd hx hb dL_law_847 ?_
      refine va_sld hx hb hX hbl hbA hS hi1 dL_law_848 ?_
      refine lv_topn hp1 ?_
      refine cc_iVF (As := [.int p1]) (rest := []) (wr := wL cI cZ cJ ad o f u') ⟨hx, hb, hml, hown, hts⟩ (k_X10_look l D cI cZ am v p1 hm) (cwV 1 hts (gwV mw_1074 mw_1075 mw_1076 mw_59 mw_1077) rfl rfl rfl (by decide +kernel) ⟨(Nat.le_of_ble_eq_true rfl), (Nat.le_of_ble_eq_true rfl)⟩) (hK.sub [0, 1] rfl) hP hD hS hA hZ [0, 1, 2, 3, 4, 5, 6, 7, 8, 9, 10, 11, 12, 13, 14, 15, 16, 17, 18, 19, 20, 21, 22, 23] [24, 25, 26, 27, 28, 29, 30, 31, 32, 33, 34, 35, 36, 37, 38, 39, 40, 41, 42, 43, 44, 45, 46, 47, 48, 49, 50, 51, 52, 53, 54, 55, 56, 57, 58, 59] rfl rfl (by decide) rfl (by decide) (by decide) (ci := 10) (q0 := 0) rfl rfl rfl hl.1 rfl (Nat.le_of_ble_eq_true rfl) dL_law_849 ⟨by show 60 + (j + 1) ≤ 1087; omega, by show 5141 + 6 * (j + 1) ≤ 13351; omega⟩ (fun H locs hP hD hS => ?_)
      replace hP : va_P D vwCl (wM cI cZ am v' ++ wL cI cZ cJ ad o f u') H := hP.sub [36, 37, 38, 39, 40, 41, 42, 43, 44, 45, 46, 47, 48, 49, 50, 51, 52, 53, 54, 55, 56, 57, 58, 59, 0, 1, 2, 3, 4, 5, 6, 7, 8, 9, 10, 11, 12, 13, 14, 15, 16, 17, 18, 19, 20, 21, 22, 23, 24, 25, 26, 27, 28, 29, 30, 31, 32, 33, 34, 35] rfl
      replace hD : va_D (fun q : Nat => s.heap.size ≤ q) (wM cI cZ am v' ++ wL cI cZ cJ ad o f u') := hD.sub [36, 37, 38, 39, 40, 41, 42, 43, 44, 45, 46, 47, 48, 49, 50, 51, 52, 53, 54, 55, 56, 57, 58, 59, 0, 1, 2, 3, 4, 5, 6, 7, 8, 9, 10, 11, 12, 13, 14, 15, 16, 17, 18, 19, 20, 21, 22, 23, 24, 25, 26, 27, 28, 29, 30, 31, 32, 33, 34, 35] (by decide) rfl
      refine lv_istore (lv' := [(6, .int b9), (5, .int 1), (0, .ref b), (1, .ref (ad 0)), (2, .ref (am 0)), (3, .ref o), (4, .int i)]) hx hb dL_law_852 hl (by decide) rfl (fun ls hl => ?_)
      refine lv_aload_n hx hb dL_law_854 rfl (lv_at hl 4 rfl) ?_
      refine cc_iVF (As := []) (rest := []) (wr := wL cI cZ cJ ad o f u') ⟨hx, hb, hml, hown, hts⟩ (k_X10_thrown l D cI cZ am v' rfl) (cwV 0 hts (gwV mw_968 mw_969 mw_970 mw_59 mw_971) rfl rfl rfl (by decide +kernel) ⟨(Nat.le_of_ble_eq_true rfl), (Nat.le_of_ble_eq_true rfl)⟩) (hK.sub [0, 1] rfl) hP hD hS hA hZ [0, 1, 2, 3, 4, 5, 6, 7, 8, 9, 10, 11, 12, 13, 14, 15, 16, 17, 18, 19, 20, 21, 22, 23] [24, 25, 26, 27, 28, 29, 30, 31, 32, 33, 34, 35, 36, 37, 38, 39, 40, 41, 42, 43, 44, 45, 46, 47, 48, 49, 50, 51, 52, 53, 54, 55, 56, 57, 58, 59] rfl rfl (by decide) rfl (by decide) (by decide) (ci := 10) (q0 := 0) rfl rfl rfl hl.1 rfl (Nat.le_of_ble_eq_true rfl) dL_law_855 ⟨by show 60 + (j + 1) ≤ 1087; omega, by show 5141 + 6 * (j + 1) ≤ 13351; omega⟩ (fun H locs hP hD hS => ?_)
      replace hP : va_P D vwCl (wM cI cZ am v' ++ wL cI cZ cJ ad o f u') H := hP.sub [36, 37, 38, 39, 40, 41, 42, 43, 44, 45, 46, 47, 48, 49, 50, 51, 52, 53, 54, 55, 56, 57, 58, 59, 0, 1, 2, 3, 4, 5, 6, 7, 8, 9, 10, 11, 12, 13, 14, 15, 16, 17, 18, 19, 20, 21, 22, 23, 24, 25, 26, 27, 28, 29, 30, 31, 32, 33, 34, 35] rfl
      replace hD : va_D (fun q : Nat => s.heap.size ≤ q) (wM cI cZ am v' ++ wL cI cZ cJ ad o f u') := hD.sub [36, 37, 38, 39, 40, 41, 42, 43, 44, 45, 46, 47, 48, 49, 50, 51, 52, 53, 54, 55, 56, 57, 58, 59, 0, 1, 2, 3, 4, 5, 6, 7, 8, 9, 10, 11, 12, 13, 14, 15, 16, 17, 18, 19, 20, 21, 22, 23, 24, 25, 26, 27, 28, 29, 30, 31, 32, 33, 34, 35] (by decide) rfl
      refine lv_iload hx hb dL_law_858 (lv_at hl 1 rfl) ?_
      refine lv_icmp_eq (tgt := 865) hx hb dL_law_860 (by decide) (fun _ => ?_) (fun c1 => absurd ht c1)
      refine lv_iload hx hb dL_law_865 (lv_at hl 1 rfl) ?_
      refine lv_if_ne (tgt := 889) hx hb dL_law_867 (by decide) (fun _ => ?_) (fun c1 => absurd c1 (by decide))
      refine lv_goto (tgt := 1764) hx hb dL_law_889 (by decide) ?_
      exact kk _ _ _ _ _ ls hrel hP hD hS (lv_sub hl [2, 3, 4, 5, 6] rfl)
    · exact absurd hq List.not_mem_nil

set_option maxHeartbeats 4000000 in
set_option maxRecDepth 100000 in
theorem lc_openShoulder {p : Program} {l : Launch} {e : Env} {s : State} {m : MethodId} {below : List Frame} {meth : Method} {c : Code} {b L : Nat} {xs : Nat → Int32} (hl0 : l.stackTraces = false) (C0 : lw_At p s m meth c b L xs) (hZ : cst (fun q : Nat => s.heap.size ≤ q) s) {D : va_G} {cI cZ cJ : ClassId} (hK : va_K D vwCl [(cI, .int), (cZ, .boolean), (cJ, .long)] s) {Rel : GS → MS → Prop} {am ad : Nat → Nat} {o : Nat} {f : Nat → Int64} {u : GS} {v : MS} {i : Int32} {j : Nat} (hj : j ≤ 511) (hi : lin i L) {p1 : Int32} (hp1 : xs (i + 1).toNatClampNeg = p1) {p2 : Int32} (hp2 : xs (i + 2).toNatClampNeg = p2) (hsim : SI Rel (g_X9_openShoulder u p1 p2) (g_X10_openShoulder v p1 p2) [("java/lang/IndexOutOfBoundsException", 1), ("java/lang/IllegalArgumentException", 2), ("java/lang/IllegalStateException", 3)]) {H : Heap} {locs : List Loc} {ls : Array Slot} (hP : va_P D vwCl (wM cI cZ am v ++ wL cI cZ cJ ad o f u) H) (hD : va_D (fun q : Nat => s.heap.size ≤ q) (wM cI cZ am v ++ wL cI cZ cJ ad o f u)) (hS : va_S (fun q : Nat => s.heap.size ≤ q) s.heap H locs) (hl : lv_has ls 7 [(0, .ref b), (1, .ref (ad 0)), (2, .ref (am 0)), (3, .ref o), (4, .int i)]) (kk : ∀ (u' : GS) (v' : MS) (f' : Nat → Int64) (H : Heap) (locs : List Loc) (ls : Array Slot), Rel u' v' → va_P D vwCl (wM cI cZ am v' ++ wL cI cZ cJ ad o f' u') H → va_D (fun q : Nat => s.heap.size ≤ q) (wM cI cZ am v' ++ wL cI cZ cJ ad o f' u') → va_S (fun q : Nat => s.heap.size ≤ q) s.heap H locs → lv_has ls 7 [(0, .ref b), (1, .ref (ad 0)), (2, .ref (am 0)), (3, .ref o), (4, .int i)] → W p l e room_1 s m #[Value.ref b] below meth c H locs (60 + (j + 1)) (5141 + 6 * (j + 1)) (lw_Z below #[Value.ref b] s) (F0 m 1764 ls [])) : W p l e room_1 s m #[Value.ref b] below meth c H locs (60 + j) (5141 + 6 * j) (lw_Z below #[Value.ref b] s) (F0 m 892 ls []) := by
  obtain ⟨hx, hb, hr, hml, hown, hts0, hX, hbl, hlocks, hgv⟩ := id C0
  have hts : ∀ w ∈ Wall, w.before #[Value.ref b] s = true := fun w h => hts0 w (wall_tbl w h)
  have hA : ∀ q : Nat, s.heap.size ≤ q → (fun q : Nat => s.heap.size ≤ q) q := fun _ h => h
  have hbA : ¬ (fun q : Nat => s.heap.size ≤ q) b := Nat.not_le.mpr hbl
  obtain ⟨-, hi1, hi2, hi3, hi4, hi5⟩ := hi
  rcases hsim with ⟨r, u', v', hc, hm, ht, hrel⟩ | ⟨q, u', b9, v', hq, hc, hm, ht, hrel⟩
  · refine lv_aload_n hx hb dL_law_892 rfl (lv_at hl 1 rfl) ?_
    refine lv_aload_n hx hb dL_law_893 rfl (lv_at hl 0 rfl) ?_
    refine lv_iload hx hb dL_law_894 (lv_at hl 4 rfl) ?_
    refine lv_iconst (v := 1) hx hb dL_law_896 (by decide) ?_
    refine lv_iadd hx hb dL_law_897 ?_
    refine va_sld hx hb hX hbl hbA hS hi1 dL_law_898 ?_
    refine lv_topn hp1 ?_
    refine lv_aload_n hx hb dL_law_899 rfl (lv_at hl 0 rfl) ?_
    refine lv_iload hx hb dL_law_900 (lv_at hl 4 rfl) ?_
    refine lv_iconst (v := 2) hx hb dL_law_902 (by decide) ?_
    refine lv_iadd hx hb dL_law_903 ?_
    refine va_sld hx hb hX hbl hbA hS hi2 dL_law_904 ?_
    refine lv_topn hp2 ?_
    refine lv_aload_n hx hb dL_law_905 rfl (lv_at hl 3 rfl) ?_
    refine cc_iSHF (As := [.ref (ad 0), .int p1, .int p2, .ref o]) (rest := []) (wr := wM cI cZ am v) ⟨hx, hb, hml, hown, hts⟩ (k_L_openShoulder l D cI cZ cJ ad o f u p1 p2 hc) (vx_cwSW 4 hts (gwSH mw_687 mw_688 mw_47 mw_689) rfl rfl rfl (by decide +kernel) ⟨(Nat.le_of_ble_eq_true rfl), (Nat.le_of_ble_eq_true rfl)⟩) hK hP hD hS hA hZ [24, 25, 26, 27, 28, 29, 30, 31, 32, 33, 34, 35, 36, 37, 38, 39, 40, 41, 42, 43, 44, 45, 46, 47, 48, 49, 50, 51, 52, 53, 54, 55, 56, 57, 58, 59] [0, 1, 2, 3, 4, 5, 6, 7, 8, 9, 10, 11, 12, 13, 14, 15, 16, 17, 18, 19, 20, 21, 22, 23] rfl rfl (by decide) rfl (by decide) (by decide) rfl hl.1 rfl (Nat.le_of_ble_eq_true rfl) dL_law_906 ⟨by show 60 + j ≤ 1087; omega, by show 5141 + 6 * j ≤ 13351; omega⟩ (fun H locs hP hD hS => ?_)
    replace hP : va_P D vwCl (wM cI cZ am v ++ wL cI cZ cJ ad o (vp_updL f (0 : Int32).toNatClampNeg r.toInt64) u') H := hP
    replace hD : va_D (fun q : Nat => s.heap.size ≤ q) (wM cI cZ am v ++ wL cI cZ cJ ad o (vp_updL f (0 : Int32).toNatClampNeg r.toInt64) u') := hD
    refine W.widen (k := 60 + (j + 1)) (n := 5141 + 6 * (j + 1)) (by omega) (by omega) ?_
    refine lv_istore (lv' := [(5, .int 0), (0, .ref b), (1, .ref (ad 0)), (2, .ref (am 0)), (3, .ref o), (4, .int i)]) hx hb dL_law_909 hl (by decide) rfl (fun ls hl => ?_)
    refine lv_aload_n hx hb dL_law_911 rfl (lv_at hl 3 rfl) ?_
    refine lv_aload_n hx hb dL_law_912 rfl (lv_at hl 1 rfl) ?_
    refine lv_iload hx hb dL_law_913 (lv_at hl 5 rfl) ?_
    refine lv_iconst (v := 1) hx hb dL_law_915 (by decide) ?_
    refine lv_iadd hx hb dL_law_916 ?_
    refine va_sld hx hb hX hbl hbA hS hi1 dL_law_917 ?_
    refine lv_topn hp1 ?_
    refine lv_aload_n hx hb dL_law_918 rfl (lv_at hl 1 rfl) ?_
    refine lv_iload hx hb dL_law_919 (lv_at hl 5 rfl) ?_
    refine lv_iconst (v := 2) hx hb dL_law_921 (by decide) ?_
    refine lv_iadd hx hb dL_law_922 ?_
    refine va_sld hx hb hX hbl hbA hS hi2 dL_law_923 ?_
    refine lv_topn hp2 ?_
    refine cc_iVF (As := [.int p1, .int p2]) (rest := []) (wr := wL cI cZ cJ ad o (vp_updL f (0 : Int32).toNatClampNeg r.toInt64) u') ⟨hx, hb, hml, hown, hts⟩ (k_X10_openShoulder l D cI cZ am v p1 p2 hm) (cwV 2 hts (gwV mw_1078 mw_1079 mw_1080 mw_59 mw_1081) rfl rfl rfl (by decide +kernel) ⟨(Nat.le_of_ble_eq_true rfl), (Nat.le_of_ble_eq_true rfl)⟩) (hK.sub [0, 1] rfl) hP hD hS hA hZ [0, 1, 2, 3, 4, 5, 6, 7, 8, 9, 10, 11, 12, 13, 14, 15, 16, 17, 18, 19, 20, 21, 22, 23] [24, 25, 26, 27, 28, 29, 30, 31, 32, 33, 34, 35, 36, 37, 38, 39, 40, 41, 42, 43, 44, 45, 46, 47, 48, 49, 50, 51, 52, 53, 54, 55, 56, 57, 58, 59] rfl rfl (by decide) rfl (by decide) (by decide) (ci := 10) (q0 := 0) rfl rfl rfl hl.1 rfl (Nat.le_of_ble_eq_true rfl) dL_law_924 ⟨by show 60 + (j + 1) ≤ 1087; omega, by show 5141 + 6 * (j + 1) ≤ 13351; omega⟩ (fun H locs hP hD hS => ?_)
    replace hP : va_P D vwCl (wM cI cZ am v' ++ wL cI cZ cJ ad o (vp_updL f (0 : Int32).toNatClampNeg r.toInt64) u') H := hP.sub [36, 37, 38, 39, 40, 41, 42, 43, 44, 45, 46, 47, 48, 49, 50, 51, 52, 53, 54, 55, 56, 57, 58, 59, 0, 1, 2, 3, 4, 5, 6, 7, 8, 9, 10, 11, 12, 13, 14, 15, 16, 17, 18, 19, 20, 21, 22, 23, 24, 25, 26, 27, 28, 29, 30, 31, 32, 33, 34, 35] rfl
    replace hD : va_D (fun q : Nat => s.heap.size ≤ q) (wM cI cZ am v' ++ wL cI cZ cJ ad o (vp_updL f (0 : Int32).toNatClampNeg r.toInt64) u') := hD.sub [36, 37, 38, 39, 40, 41, 42, 43, 44, 45, 46, 47, 48, 49, 50, 51, 52, 53, 54, 55, 56, 57, 58, 59, 0, 1, 2, 3, 4, 5, 6, 7, 8, 9, 10, 11, 12, 13, 14, 15, 16, 17, 18, 19, 20, 21, 22, 23, 24, 25, 26, 27, 28, 29, 30, 31, 32, 33, 34, 35] (by decide) rfl
    refine lv_istore (lv' := [(6, .int r), (5, .int 0), (0, .ref b), (1, .ref (ad 0)), (2, .ref (am 0)), (3, .ref o), (4, .int i)]) hx hb dL_law_927 hl (by decide) rfl (fun ls hl => ?_)
    refine lv_aload_n hx hb dL_law_929 rfl (lv_at hl 4 rfl) ?_
    refine cc_iVF (As := []) (rest := []) (wr := wL cI cZ cJ ad o (vp_updL f (0 : Int32).toNatClampNeg r.toInt64) u') ⟨hx, hb, hml, hown, hts⟩ (k_X10_thrown l D cI cZ am v' rfl) (cwV 0 hts (gwV mw_968 mw_969 mw_970 mw_59 mw_971) rfl rfl rfl (by decide +kernel) ⟨(Nat.le_of_ble_eq_true rfl), (Nat.le_of_ble_eq_true rfl)⟩) (hK.sub [0, 1] rfl) hP hD hS hA hZ [0, 1, 2, 3, 4, 5, 6, 7, 8, 9, 10, 11, 12, 13, 14, 15, 16, 17, 18, 19, 20, 21, 22, 23] [24, 25, 26, 27, 28, 29, 30, 31, 32, 33, 34, 35, 36, 37, 38, 39, 40, 41, 42, 43, 44, 45, 46, 47, 48, 49, 50, 51, 52, 53, 54, 55, 56, 57, 58, 59] rfl rfl (by decide) rfl (by decide) (by decide) (ci := 10) (q0 := 0) rfl rfl rfl hl.1 rfl (Nat.le_of_ble_eq_true rfl) dL_law_930 ⟨by show 60 + (j + 1) ≤ 1087; omega, by show 5141 + 6 * (j + 1) ≤ 13351; omega⟩ (fun H locs hP hD hS => ?_)
    replace hP : va_P D vwCl (wM cI cZ am v' ++ wL cI cZ cJ ad o (vp_updL f (0 : Int32).toNatClampNeg r.toInt64) u') H := hP.sub [36, 37, 38, 39, 40, 41, 42, 43, 44, 45, 46, 47, 48, 49, 50, 51, 52, 53, 54, 55, 56, 57, 58, 59, 0, 1, 2, 3, 4, 5, 6, 7, 8, 9, 10, 11, 12, 13, 14, 15, 16, 17, 18, 19, 20, 21, 22, 23, 24, 25, 26, 27, 28, 29, 30, 31, 32, 33, 34, 35] rfl
    replace hD : va_D (fun q : Nat => s.heap.size ≤ q) (wM cI cZ am v' ++ wL cI cZ cJ ad o (vp_updL f (0 : Int32).toNatClampNeg r.toInt64) u') := hD.sub [36, 37, 38, 39, 40, 41, 42, 43, 44, 45, 46, 47, 48, 49, 50, 51, 52, 53, 54, 55, 56, 57, 58, 59, 0, 1, 2, 3, 4, 5, 6, 7, 8, 9, 10, 11, 12, 13, 14, 15, 16, 17, 18, 19, 20, 21, 22, 23, 24, 25, 26, 27, 28, 29, 30, 31, 32, 33, 34, 35] (by decide) rfl
    refine lv_iload hx hb dL_law_933 (lv_at hl 1 rfl) ?_
    refine lv_icmp_eq (tgt := 940) hx hb dL_law_935 (by decide) (fun _ => ?_) (fun c1 => absurd ht c1)
    refine lv_iload hx hb dL_law_940 (lv_at hl 1 rfl) ?_
    refine lv_if_ne (tgt := 957) hx hb dL_law_942 (by decide) (fun c1 => absurd rfl c1) (fun _ => ?_)
    refine lv_aload_n hx hb dL_law_945 rfl (lv_at hl 5 rfl) ?_
    refine lv_iconst (v := 0) hx hb dL_law_946 (by decide) ?_
    refine va_lald (D := D) hx hb hK hP 24 2 rfl rfl (by unfold vp_in; decide) dL_law_947 ?_
    refine lv_iload hx hb dL_law_948 (lv_at hl 0 rfl) ?_
    refine lv_i2l (v := r.toInt64) hx hb dL_law_950 rfl ?_
    refine W.lcmp hx hb dL_law_951 ?_
    refine lv_if_eq (tgt := 957) hx hb dL_law_952 (by decide) (fun _ => ?_) (fun c2 => absurd (by simp [lg_cmp, vp_updL]) c2)
    refine lv_goto (tgt := 1764) hx hb dL_law_957 (by decide) ?_
    exact kk _ _ _ _ _ ls hrel hP hD hS (lv_sub hl [2, 3, 4, 5, 6] rfl)
  · rcases List.mem_cons.mp hq with rfl | hq
    · refine lv_aload_n hx hb dL_law_892 rfl (lv_at hl 1 rfl) ?_
      refine lv_aload_n hx hb dL_law_893 rfl (lv_at hl 0 rfl) ?_
      refine lv_iload hx hb dL_law_894 (lv_at hl 4 rfl) ?_
      refine lv_iconst (v := 1) hx hb dL_law_896 (by decide) ?_
      refine lv_iadd hx hb dL_law_897 ?_
      refine va_sld hx hb hX hbl hbA hS hi1 dL_law_898 ?_
      refine lv_topn hp1 ?_
      refine lv_aload_n hx hb dL_law_899 rfl (lv_at hl 0 rfl) ?_
      refine lv_iload hx hb dL_law_900 (lv_at hl 4 rfl) ?_
      refine lv_iconst (v := 2) hx hb dL_law_902 (by decide) ?_
      refine lv_iadd hx hb dL_law_903 ?_
      refine va_sld hx hb hX hbl hbA hS hi2 dL_law_904 ?_
      refine lv_topn hp2 ?_
      refine lv_aload_n hx hb dL_law_905 rfl (lv_at hl 3 rfl) ?_
      refine cc_iSHF (As := [.ref (ad 0), .int p1, .int p2, .ref o]) (rest := []) (wr := wM cI cZ am v) ⟨hx, hb, hml, hown, hts⟩ (kx1_L_openShoulder l hl0 D cI cZ cJ ad o f u p1 p2 hc) (vx_cwSW 4 hts (gwSH mw_687 mw_688 mw_47 mw_689) rfl rfl rfl (by decide +kernel) ⟨(Nat.le_of_ble_eq_true rfl), (Nat.le_of_ble_eq_true rfl)⟩) hK hP hD hS hA hZ [24, 25, 26, 27, 28, 29, 30, 31, 32, 33, 34, 35, 36, 37, 38, 39, 40, 41, 42, 43, 44, 45, 46, 47, 48, 49, 50, 51, 52, 53, 54, 55, 56, 57, 58, 59] [0, 1, 2, 3, 4, 5, 6, 7, 8, 9, 10, 11, 12, 13, 14, 15, 16, 17, 18, 19, 20, 21, 22, 23] rfl rfl (by decide) rfl (by decide) (by decide) rfl hl.1 rfl (Nat.le_of_ble_eq_true rfl) dL_law_906 ⟨by show 60 + j + 1 ≤ 1087; omega, by show 5141 + 6 * j + 6 ≤ 13351; omega⟩ (fun H locs hP hD hS => ?_)
      replace hP : va_P D vwCl (wM cI cZ am v ++ wL cI cZ cJ ad o f u') H := hP
      replace hD : va_D (fun q : Nat => s.heap.size ≤ q) (wM cI cZ am v ++ wL cI cZ cJ ad o f u') := hD
      refine W.widen (k := 60 + (j + 1)) (n := 5141 + 6 * (j + 1)) (by omega) (by omega) ?_
      refine lv_istore (lv' := [(5, .int 1), (0, .ref b), (1, .ref (ad 0)), (2, .ref (am 0)), (3, .ref o), (4, .int i)]) hx hb dL_law_909 hl (by decide) rfl (fun ls hl => ?_)
      refine lv_aload_n hx hb dL_law_911 rfl (lv_at hl 3 rfl) ?_
      refine lv_aload_n hx hb dL_law_912 rfl (lv_at hl 1 rfl) ?_
      refine lv_iload hx hb dL_law_913 (lv_at hl 5 rfl) ?_
      refine lv_iconst (v := 1) hx hb dL_law_915 (by decide) ?_
      refine lv_iadd hx hb dL_law_916 ?_
      refine va_sld hx hb hX hbl hbA hS hi1 dL_law_917 ?_
      refine lv_topn hp1 ?_
      refine lv_aload_n hx hb dL_law_918 rfl (lv_at hl 1 rfl) ?_
      refine lv_iload hx hb dL_law_919 (lv_at hl 5 rfl) ?_
      refine lv_iconst (v := 2) hx hb dL_law_921 (by decide) ?_
      refine lv_iadd hx hb dL_law_922 ?_
      refine va_sld hx hb hX hbl hbA hS hi2 dL_law_923 ?_
      refine lv_topn hp2 ?_
      refine cc_iVF (As := [.int p1, .int p2]) (rest := []) (wr := wL cI cZ cJ ad o f u') ⟨hx, hb, hml, hown, hts⟩ (k_X10_openShoulder l D cI cZ am v p1 p2 hm) (cwV 2 hts (gwV mw_1078 mw_1079 mw_1080 mw_59 mw_1081) rfl rfl rfl (by decide +kernel) ⟨(Nat.le_of_ble_eq_true rfl), (Nat.le_of_ble_eq_true rfl)⟩) (hK.sub [0, 1] rfl) hP hD hS hA hZ [0, 1, 2, 3, 4, 5, 6, 7, 8, 9, 10, 11, 12, 13, 14, 15, 16, 17, 18, 19, 20, 21, 22, 23] [24, 25, 26, 27, 28, 29, 30, 31, 32, 33, 34, 35, 36, 37, 38, 39, 40, 41, 42, 43, 44, 45, 46, 47, 48, 49, 50, 51, 52, 53, 54, 55, 56, 57, 58, 59] rfl rfl (by decide) rfl (by decide) (by decide) (ci := 10) (q0 := 0) rfl rfl rfl hl.1 rfl (Nat.le_of_ble_eq_true rfl) dL_law_924 ⟨by show 60 + (j + 1) ≤ 1087; omega, by show 5141 + 6 * (j + 1) ≤ 13351; omega⟩ (fun H locs hP hD hS => ?_)
      replace hP : va_P D vwCl (wM cI cZ am v' ++ wL cI cZ cJ ad o f u') H := hP.sub [36, 37, 38, 39, 40, 41, 42, 43, 44, 45, 46, 47, 48, 49, 50, 51, 52, 53, 54, 55, 56, 57, 58, 59, 0, 1, 2, 3, 4, 5, 6, 7, 8, 9, 10, 11, 12, 13, 14, 15, 16, 17, 18, 19, 20, 21, 22, 23, 24, 25, 26, 27, 28, 29, 30, 31, 32, 33, 34, 35] rfl
      replace hD : va_D (fun q : Nat => s.heap.size ≤ q) (wM cI cZ am v' ++ wL cI cZ cJ ad o f u') := hD.sub [36, 37, 38, 39, 40, 41, 42, 43, 44, 45, 46, 47, 48, 49, 50, 51, 52, 53, 54, 55, 56, 57, 58, 59, 0, 1, 2, 3, 4, 5, 6, 7, 8, 9, 10, 11, 12, 13, 14, 15, 16, 17, 18, 19, 20, 21, 22, 23, 24, 25, 26, 27, 28, 29, 30, 31, 32, 33, 34, 35] (by decide) rfl
      refine lv_istore (lv' := [(6, .int b9), (5, .int 1), (0, .ref b), (1, .ref (ad 0)), (2, .ref (am 0)), (3, .ref o), (4, .int i)]) hx hb dL_law_927 hl (by decide) rfl (fun ls hl => ?_)
      refine lv_aload_n hx hb dL_law_929 rfl (lv_at hl 4 rfl) ?_
      refine cc_iVF (As := []) (rest := []) (wr := wL cI cZ cJ ad o f u') ⟨hx, hb, hml, hown, hts⟩ (k_X10_thrown l D cI cZ am v' rfl) (cwV 0 hts (gwV mw_968 mw_969 mw_970 mw_59 mw_971) rfl rfl rfl (by decide +kernel) ⟨(Nat.le_of_ble_eq_true rfl), (Nat.le_of_ble_eq_true rfl)⟩) (hK.sub [0, 1] rfl) hP hD hS hA hZ [0, 1, 2, 3, 4, 5, 6, 7, 8, 9, 10, 11, 12, 13, 14, 15, 16, 17, 18, 19, 20, 21, 22, 23] [24, 25, 26, 27, 28, 29, 30, 31, 32, 33, 34, 35, 36, 37, 38, 39, 40, 41, 42, 43, 44, 45, 46, 47, 48, 49, 50, 51, 52, 53, 54, 55, 56, 57, 58, 59] rfl rfl (by decide) rfl (by decide) (by decide) (ci := 10) (q0 := 0) rfl rfl rfl hl.1 rfl (Nat.le_of_ble_eq_true rfl) dL_law_930 ⟨by show 60 + (j + 1) ≤ 1087; omega, by show 5141 + 6 * (j + 1) ≤ 13351; omega⟩ (fun H locs hP hD hS => ?_)
      replace hP : va_P D vwCl (wM cI cZ am v' ++ wL cI cZ cJ ad o f u') H := hP.sub [36, 37, 38, 39, 40, 41, 42, 43, 44, 45, 46, 47, 48, 49, 50, 51, 52, 53, 54, 55, 56, 57, 58, 59, 0, 1, 2, 3, 4, 5, 6, 7, 8, 9, 10, 11, 12, 13, 14, 15, 16, 17, 18, 19, 20, 21, 22, 23, 24, 25, 26, 27, 28, 29, 30, 31, 32, 33, 34, 35] rfl
      replace hD : va_D (fun q : Nat => s.heap.size ≤ q) (wM cI cZ am v' ++ wL cI cZ cJ ad o f u') := hD.sub [36, 37, 38, 39, 40, 41, 42, 43, 44, 45, 46, 47, 48, 49, 50, 51, 52, 53, 54, 55, 56, 57, 58, 59, 0, 1, 2, 3, 4, 5, 6, 7, 8, 9, 10, 11, 12, 13, 14, 15, 16, 17, 18, 19, 20, 21, 22, 23, 24, 25, 26, 27, 28, 29, 30, 31, 32, 33, 34, 35] (by decide) rfl
      refine lv_iload hx hb dL_law_933 (lv_at hl 1 rfl) ?_
      refine lv_icmp_eq (tgt := 940) hx hb dL_law_935 (by decide) (fun _ => ?_) (fun c1 => absurd ht c1)
      refine lv_iload hx hb dL_law_940 (lv_at hl 1 rfl) ?_
      refine lv_if_ne (tgt := 957) hx hb dL_law_942 (by decide) (fun _ => ?_) (fun c1 => absurd c1 (by decide))
      refine lv_goto (tgt := 1764) hx hb dL_law_957 (by decide) ?_
      exact kk _ _ _ _ _ ls hrel hP hD hS (lv_sub hl [2, 3, 4, 5, 6] rfl)
    · rcases List.mem_cons.mp hq with rfl | hq
      · refine lv_aload_n hx hb dL_law_892 rfl (lv_at hl 1 rfl) ?_
        refine lv_aload_n hx hb dL_law_893 rfl (lv_at hl 0 rfl) ?_
        refine lv_iload hx hb dL_law_894 (lv_at hl 4 rfl) ?_
        refine lv_iconst (v := 1) hx hb dL_law_896 (by decide) ?_
        refine lv_iadd hx hb dL_law_897 ?_
        refine va_sld hx hb hX hbl hbA hS hi1 dL_law_898 ?_
        refine lv_topn hp1 ?_
        refine lv_aload_n hx hb dL_law_899 rfl (lv_at hl 0 rfl) ?_
        refine lv_iload hx hb dL_law_900 (lv_at hl 4 rfl) ?_
        refine lv_iconst (v := 2) hx hb dL_law_902 (by decide) ?_
        refine lv_iadd hx hb dL_law_903 ?_
        refine va_sld hx hb hX hbl hbA hS hi2 dL_law_904 ?_
        refine lv_topn hp2 ?_
        refine lv_aload_n hx hb dL_law_905 rfl (lv_at hl 3 rfl) ?_
        refine cc_iSHF (As := [.ref (ad 0), .int p1, .int p2, .ref o]) (rest := []) (wr := wM cI cZ am v) ⟨hx, hb, hml, hown, hts⟩ (kx2_L_openShoulder l hl0 D cI cZ cJ ad o f u p1 p2 hc) (vx_cwSW 4 hts (gwSH mw_687 mw_688 mw_47 mw_689) rfl rfl rfl (by decide +kernel) ⟨(Nat.le_of_ble_eq_true rfl), (Nat.le_of_ble_eq_true rfl)⟩) hK hP hD hS hA hZ [24, 25, 26, 27, 28, 29, 30, 31, 32, 33, 34, 35, 36, 37, 38, 39, 40, 41, 42, 43, 44, 45, 46, 47, 48, 49, 50, 51, 52, 53, 54, 55, 56, 57, 58, 59] [0, 1, 2, 3, 4, 5, 6, 7, 8, 9, 10, 11, 12, 13, 14, 15, 16, 17, 18, 19, 20, 21, 22, 23] rfl rfl (by decide) rfl (by decide) (by decide) rfl hl.1 rfl (Nat.le_of_ble_eq_true rfl) dL_law_906 ⟨by show 60 + j + 1 ≤ 1087; omega, by show 5141 + 6 * j + 6 ≤ 13351; omega⟩ (fun H locs hP hD hS => ?_)
        replace hP : va_P D vwCl (wM cI cZ am v ++ wL cI cZ cJ ad o f u') H := hP
        replace hD : va_D (fun q : Nat => s.heap.size ≤ q) (wM cI cZ am v ++ wL cI cZ cJ ad o f u') := hD
        refine W.widen (k := 60 + (j + 1)) (n := 5141 + 6 * (j + 1)) (by omega) (by omega) ?_
        refine lv_istore (lv' := [(5, .int 2), (0, .ref b), (1, .ref (ad 0)), (2, .ref (am 0)), (3, .ref o), (4, .int i)]) hx hb dL_law_909 hl (by decide) rfl (fun ls hl => ?_)
        refine lv_aload_n hx hb dL_law_911 rfl (lv_at hl 3 rfl) ?_
        refine lv_aload_n hx hb dL_law_912 rfl (lv_at hl 1 rfl) ?_
        refine lv_iload hx hb dL_law_913 (lv_at hl 5 rfl) ?_
        refine lv_iconst (v := 1) hx hb dL_law_915 (by decide) ?_
        refine lv_iadd hx hb dL_law_916 ?_
        refine va_sld hx hb hX hbl hbA hS hi1 dL_law_917 ?_
        refine lv_topn hp1 ?_
        refine lv_aload_n hx hb dL_law_918 rfl (lv_at hl 1 rfl) ?_
        refine lv_iload hx hb dL_law_919 (lv_at hl 5 rfl) ?_
        refine lv_iconst (v := 2) hx hb dL_law_921 (by decide) ?_
        refine lv_iadd hx hb dL_law_922 ?_
        refine va_sld hx hb hX hbl hbA hS hi2 dL_law_923 ?_
        refine lv_topn hp2 ?_
        refine cc_iVF (As := [.int p1, .int p2]) (rest := []) (wr := wL cI cZ cJ ad o f u') ⟨hx, hb, hml, hown, hts⟩ (k_X10_openShoulder l D cI cZ am v p1 p2 hm) (cwV 2 hts (gwV mw_1078 mw_1079 mw_1080 mw_59 mw_1081) rfl rfl rfl (by decide +kernel) ⟨(Nat.le_of_ble_eq_true rfl), (Nat.le_of_ble_eq_true rfl)⟩) (hK.sub [0, 1] rfl) hP hD hS hA hZ [0, 1, 2, 3, 4, 5, 6, 7, 8, 9, 10, 11, 12, 13, 14, 15, 16, 17, 18, 19, 20, 21, 22, 23] [24, 25, 26, 27, 28, 29, 30, 31, 32, 33, 34, 35, 36, 37, 38, 39, 40, 41, 42, 43, 44, 45, 46, 47, 48, 49, 50, 51, 52, 53, 54, 55, 56, 57, 58, 59] rfl rfl (by decide) rfl (by decide) (by decide) (ci := 10) (q0 := 0) rfl rfl rfl hl.1 rfl (Nat.le_of_ble_eq_true rfl) dL_law_924 ⟨by show 60 + (j + 1) ≤ 1087; omega, by show 5141 + 6 * (j + 1) ≤ 13351; omega⟩ (fun H locs hP hD hS => ?_)
        replace hP : va_P D vwCl (wM cI cZ am v' ++ wL cI cZ cJ ad o f u') H := hP.sub [36, 37, 38, 39, 40, 41, 42, 43, 44, 45, 46, 47, 48, 49, 50, 51, 52, 53, 54, 55, 56, 57, 58, 59, 0, 1, 2, 3, 4, 5, 6, 7, 8, 9, 10, 11, 12, 13, 14, 15, 16, 17, 18, 19, 20, 21, 22, 23, 24, 25, 26, 27, 28, 29, 30, 31, 32, 33, 34, 35] rfl
        replace hD : va_D (fun q : Nat => s.heap.size ≤ q) (wM cI cZ am v' ++ wL cI cZ cJ ad o f u') := hD.sub [36, 37, 38, 39, 40, 41, 42, 43, 44, 45, 46, 47, 48, 49, 50, 51, 52, 53, 54, 55, 56, 57, 58, 59, 0, 1, 2, 3, 4, 5, 6, 7, 8, 9, 10, 11, 12, 13, 14, 15, 16, 17, 18, 19, 20, 21, 22, 23, 24, 25, 26, 27, 28, 29, 30, 31, 32, 33, 34, 35] (by decide) rfl
        refine lv_istore (lv' := [(6, .int b9), (5, .int 2), (0, .ref b), (1, .ref (ad 0)), (2, .ref (am 0)), (3, .ref o), (4, .int i)]) hx hb dL_law_927 hl (by decide) rfl (fun ls hl => ?_)
        refine lv_aload_n hx hb dL_law_929 rfl (lv_at hl 4 rfl) ?_
        refine cc_iVF (As := []) (rest := []) (wr := wL cI cZ cJ ad o f u') ⟨hx, hb, hml, hown, hts⟩ (k_X10_thrown l D cI cZ am v' rfl) (cwV 0 hts (gwV mw_968 mw_969 mw_970 mw_59 mw_971) rfl rfl rfl (by decide +kernel) ⟨(Nat.le_of_ble_eq_true rfl), (Nat.le_of_ble_eq_true rfl)⟩) (hK.sub [0, 1] rfl) hP hD hS hA hZ [0, 1, 2, 3, 4, 5, 6, 7, 8, 9, 10, 11, 12, 13, 14, 15, 16, 17, 18, 19, 20, 21, 22, 23] [24, 25, 26, 27, 28, 29, 30, 31, 32, 33, 34, 35, 36, 37, 38, 39, 40, 41, 42, 43, 44, 45, 46, 47, 48, 49, 50, 51, 52, 53, 54, 55, 56, 57, 58, 59] rfl rfl (by decide) rfl (by decide) (by decide) (ci := 10) (q0 := 0) rfl rfl rfl hl.1 rfl (Nat.le_of_ble_eq_true rfl) dL_law_930 ⟨by show 60 + (j + 1) ≤ 1087; omega, by show 5141 + 6 * (j + 1) ≤ 13351; omega⟩ (fun H locs hP hD hS => ?_)
        replace hP : va_P D vwCl (wM cI cZ am v' ++ wL cI cZ cJ ad o f u') H := hP.sub [36, 37, 38, 39, 40, 41, 42, 43, 44, 45, 46, 47, 48, 49, 50, 51, 52, 53, 54, 55, 56, 57, 58, 59, 0, 1, 2, 3, 4, 5, 6, 7, 8, 9, 10, 11, 12, 13, 14, 15, 16, 17, 18, 19, 20, 21, 22, 23, 24, 25, 26, 27, 28, 29, 30, 31, 32, 33, 34, 35] rfl
        replace hD : va_D (fun q : Nat => s.heap.size ≤ q) (wM cI cZ am v' ++ wL cI cZ cJ ad o f u') := hD.sub [36, 37, 38, 39, 40, 41, 42, 43, 44, 45, 46, 47, 48, 49, 50, 51, 52, 53, 54, 55, 56, 57, 58, 59, 0, 1, 2, 3, 4, 5, 6, 7, 8, 9, 10, 11, 12, 13, 14, 15, 16, 17, 18, 19, 20, 21, 22, 23, 24, 25, 26, 27, 28, 29, 30, 31, 32, 33, 34, 35] (by decide) rfl
        refine lv_iload hx hb dL_law_933 (lv_at hl 1 rfl) ?_
        refine lv_icmp_eq (tgt := 940) hx hb dL_law_935 (by decide) (fun _ => ?_) (fun c1 => absurd ht c1)
        refine lv_iload hx hb dL_law_940 (lv_at hl 1 rfl) ?_
        refine lv_if_ne (tgt := 957) hx hb dL_law_942 (by decide) (fun _ => ?_) (fun c1 => absurd c1 (by decide))
        refine lv_goto (tgt := 1764) hx hb dL_law_957 (by decide) ?_
        exact kk _ _ _ _ _ ls hrel hP hD hS (lv_sub hl [2, 3, 4, 5, 6] rfl)
      · rcases List.mem_cons.mp hq with rfl | hq
        · refine lv_aload_n hx hb dL_law_892 rfl (lv_at hl 1 rfl) ?_
          refine lv_aload_n hx hb dL_law_893 rfl (lv_at hl 0 rfl) ?_
          refine lv_iload hx hb dL_law_894 (lv_at hl 4 rfl) ?_
          refine lv_iconst (v := 1) hx hb dL_law_896 (by decide) ?_
          refine lv_iadd hx hb dL_law_897 ?_
          refine va_sld hx hb hX hbl hbA hS hi1 dL_law_898 ?_
          refine lv_topn hp1 ?_
          refine lv_aload_n hx hb dL_law_899 rfl (lv_at hl 0 rfl) ?_
          refine lv_iload hx hb dL_law_900 (lv_at hl 4 rfl) ?_
          refine lv_iconst (v := 2) hx hb dL_law_902 (by decide) ?_
          refine lv_iadd hx hb dL_law_903 ?_
          refine va_sld hx hb hX hbl hbA hS hi2 dL_law_904 ?_
          refine lv_topn hp2 ?_
          refine lv_aload_n hx hb dL_law_905 rfl (lv_at hl 3 rfl) ?_
          refine cc_iSHF (As := [.ref (ad 0), .int p1, .int p2, .ref o]) (rest := []) (wr := wM cI cZ am v) ⟨hx, hb, hml, hown, hts⟩ (kx3_L_openShoulder l hl0 D cI cZ cJ ad o f u p1 p2 hc) (vx_cwSW 4 hts (gwSH mw_687 mw_688 mw_47 mw_689) rfl rfl rfl (by decide +kernel) ⟨(Nat.le_of_ble_eq_true rfl), (Nat.le_of_ble_eq_true rfl)⟩) hK hP hD hS hA hZ [24, 25, 26, 27, 28, 29, 30, 31, 32, 33, 34, 35, 36, 37, 38, 39, 40, 41, 42, 43, 44, 45, 46, 47, 48, 49, 50, 51, 52, 53, 54, 55, 56, 57, 58, 59] [0, 1, 2, 3, 4, 5, 6, 7, 8, 9, 10, 11, 12, 13, 14, 15, 16, 17, 18, 19, 20, 21, 22, 23] rfl rfl (by decide) rfl (by decide) (by decide) rfl hl.1 rfl (Nat.le_of_ble_eq_true rfl) dL_law_906 ⟨by show 60 + j + 1 ≤ 1087; omega, by show 5141 + 6 * j + 6 ≤ 13351; omega⟩ (fun H locs hP hD hS => ?_)
          replace hP : va_P D vwCl (wM cI cZ am v ++ wL cI cZ cJ ad o f u') H := hP
          replace hD : va_D (fun q : Nat => s.heap.size ≤ q) (wM cI cZ am v ++ wL cI cZ cJ ad o f u') := hD
          refine W.widen (k := 60 + (j + 1)) (n := 5141 + 6 * (j + 1)) (by omega) (by omega) ?_
          refine lv_istore (lv' := [(5, .int 3), (0, .ref b), (1, .ref (ad 0)), (2, .ref (am 0)), (3, .ref o), (4, .int i)]) hx hb dL_law_909 hl (by decide) rfl (fun ls hl => ?_)
          refine lv_aload_n hx hb dL_law_911 rfl (lv_at hl 3 rfl) ?_
          refine lv_aload_n hx hb dL_law_912 rfl (lv_at hl 1 rfl) ?_
          refine lv_iload hx hb dL_law_913 (lv_at hl 5 rfl) ?_
          refine lv_iconst (v := 1) hx hb dL_law_915 (by decide) ?_
          refine lv_iadd hx hb dL_law_916 ?_
          refine va_sld hx hb hX hbl hbA hS hi1 dL_law_917 ?_
          refine lv_topn hp1 ?_
          refine lv_aload_n hx hb dL_law_918 rfl (lv_at hl 1 rfl) ?_
          refine lv_iload hx hb dL_law_919 (lv_at hl 5 rfl) ?_
          refine lv_iconst (v := 2) hx hb dL_law_921 (by decide) ?_
          refine lv_iadd hx hb dL_law_922 ?_
          refine va_sld hx hb hX hbl hbA hS hi2 dL_law_923 ?_
          refine lv_topn hp2 ?_
          refine cc_iVF (As := [.int p1, .int p2]) (rest := []) (wr := wL cI cZ cJ ad o f u') ⟨hx, hb, hml, hown, hts⟩ (k_X10_openShoulder l D cI cZ am v p1 p2 hm) (cwV 2 hts (gwV mw_1078 mw_1079 mw_1080 mw_59 mw_1081) rfl rfl rfl (by decide +kernel) ⟨(Nat.le_of_ble_eq_true rfl), (Nat.le_of_ble_eq_true rfl)⟩) (hK.sub [0, 1] rfl) hP hD hS hA hZ [0, 1, 2, 3, 4, 5, 6, 7, 8, 9, 10, 11, 12, 13, 14, 15, 16, 17, 18, 19, 20, 21, 22, 23] [24, 25, 26, 27, 28, 29, 30, 31, 32, 33, 34, 35, 36, 37, 38, 39, 40, 41, 42, 43, 44, 45, 46, 47, 48, 49, 50, 51, 52, 53, 54, 55, 56, 57, 58, 59] rfl rfl (by decide) rfl (by decide) (by decide) (ci := 10) (q0 := 0) rfl rfl rfl hl.1 rfl (Nat.le_of_ble_eq_true rfl) dL_law_924 ⟨by show 60 + (j + 1) ≤ 1087; omega, by show 5141 + 6 * (j + 1) ≤ 13351; omega⟩ (fun H locs hP hD hS => ?_)
          replace hP : va_P D vwCl (wM cI cZ am v' ++ wL cI cZ cJ ad o f u') H := hP.sub [36, 37, 38, 39, 40, 41, 42, 43, 44, 45, 46, 47, 48, 49, 50, 51, 52, 53, 54, 55, 56, 57, 58, 59, 0, 1, 2, 3, 4, 5, 6, 7, 8, 9, 10, 11, 12, 13, 14, 15, 16, 17, 18, 19, 20, 21, 22, 23, 24, 25, 26, 27, 28, 29, 30, 31, 32, 33, 34, 35] rfl
          replace hD : va_D (fun q : Nat => s.heap.size ≤ q) (wM cI cZ am v' ++ wL cI cZ cJ ad o f u') := hD.sub [36, 37, 38, 39, 40, 41, 42, 43, 44, 45, 46, 47, 48, 49, 50, 51, 52, 53, 54, 55, 56, 57, 58, 59, 0, 1, 2, 3, 4, 5, 6, 7, 8, 9, 10, 11, 12, 13, 14, 15, 16, 17, 18, 19, 20, 21, 22, 23, 24, 25, 26, 27, 28, 29, 30, 31, 32, 33, 34, 35] (by decide) rfl
          refine lv_istore (lv' := [(6, .int b9), (5, .int 3), (0, .ref b), (1, .ref (ad 0)), (2, .ref (am 0)), (3, .ref o), (4, .int i)]) hx hb dL_law_927 hl (by decide) rfl (fun ls hl => ?_)
          refine lv_aload_n hx hb dL_law_929 rfl (lv_at hl 4 rfl) ?_
          refine cc_iVF (As := []) (rest := []) (wr := wL cI cZ cJ ad o f u') ⟨hx, hb, hml, hown, hts⟩ (k_X10_thrown l D cI cZ am v' rfl) (cwV 0 hts (gwV mw_968 mw_969 mw_970 mw_59 mw_971) rfl rfl rfl (by decide +kernel) ⟨(Nat.le_of_ble_eq_true rfl), (Nat.le_of_ble_eq_true rfl)⟩) (hK.sub [0, 1] rfl) hP hD hS hA hZ [0, 1, 2, 3, 4, 5, 6, 7, 8, 9, 10, 11, 12, 13, 14, 15, 16, 17, 18, 19, 20, 21, 22, 23] [24, 25, 26, 27, 28, 29, 30, 31, 32, 33, 34, 35, 36, 37, 38, 39, 40, 41, 42, 43, 44, 45, 46, 47, 48, 49, 50, 51, 52, 53, 54, 55, 56, 57, 58, 59] rfl rfl (by decide) rfl (by decide) (by decide) (ci := 10) (q0 := 0) rfl rfl rfl hl.1 rfl (Nat.le_of_ble_eq_true rfl) dL_law_930 ⟨by show 60 + (j + 1) ≤ 1087; omega, by show 5141 + 6 * (j + 1) ≤ 13351; omega⟩ (fun H locs hP hD hS => ?_)
          replace hP : va_P D vwCl (wM cI cZ am v' ++ wL cI cZ cJ ad o f u') H := hP.sub [36, 37, 38, 39, 40, 41, 42, 43, 44, 45, 46, 47, 48, 49, 50, 51, 52, 53, 54, 55, 56, 57, 58, 59, 0, 1, 2, 3, 4, 5, 6, 7, 8, 9, 10, 11, 12, 13, 14, 15, 16, 17, 18, 19, 20, 21, 22, 23, 24, 25, 26, 27, 28, 29, 30, 31, 32, 33, 34, 35] rfl
          replace hD : va_D (fun q : Nat => s.heap.size ≤ q) (wM cI cZ am v' ++ wL cI cZ cJ ad o f u') := hD.sub [36, 37, 38, 39, 40, 41, 42, 43, 44, 45, 46, 47, 48, 49, 50, 51, 52, 53, 54, 55, 56, 57, 58, 59, 0, 1, 2, 3, 4, 5, 6, 7, 8, 9, 10, 11, 12, 13, 14, 15, 16, 17, 18, 19, 20, 21, 22, 23, 24, 25, 26, 27, 28, 29, 30, 31, 32, 33, 34, 35] (by decide) rfl
          refine lv_iload hx hb dL_law_933 (lv_at hl 1 rfl) ?_
          refine lv_icmp_eq (tgt := 940) hx hb dL_law_935 (by decide) (fun _ => ?_) (fun c1 => absurd ht c1)
          refine lv_iload hx hb dL_law_940 (lv_at hl 1 rfl) ?_
          refine lv_if_ne (tgt := 957) hx hb dL_law_942 (by decide) (fun _ => ?_) (fun c1 => absurd c1 (by decide))
          refine lv_goto (tgt := 1764) hx hb dL_law_957 (by decide) ?_
          exact kk _ _ _ _ _ ls hrel hP hD hS (lv_sub hl [2, 3, 4, 5, 6] rfl)
        · exact absurd hq List.not_mem_nil
