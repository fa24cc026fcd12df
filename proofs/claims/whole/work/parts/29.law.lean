set_option maxHeartbeats 4000000 in
set_option maxRecDepth 100000 in
theorem lc_shutShoulder {p : Program} {l : Launch} {e : Env} {s : State} {m : MethodId} {below : List Frame} {meth : Method} {c : Code} {b L : Nat} {xs : Nat → Int32} (hl0 : l.stackTraces = false) (C0 : lw_At p s m meth c b L xs) (hZ : cst (fun q : Nat => s.heap.size ≤ q) s) {D : va_G} {cI cZ cJ : ClassId} (hK : va_K D vwCl [(cI, .int), (cZ, .boolean), (cJ, .long)] s) {Rel : GS → MS → Prop} {am ad : Nat → Nat} {o : Nat} {f : Nat → Int64} {u : GS} {v : MS} {i : Int32} {j : Nat} (hj : j ≤ 511) (hi : lin i L) (hsim : ∃ (r : Int32) (u' : GS) (v' : MS), g_X9_shutShoulder u = some (r, u') ∧ g_X10_shutShoulder v = some (r, v') ∧ Rel u' v') {H : Heap} {locs : List Loc} {ls : Array Slot} (hP : va_P D vwCl (wM cI cZ am v ++ wL cI cZ cJ ad o f u) H) (hD : va_D (fun q : Nat => s.heap.size ≤ q) (wM cI cZ am v ++ wL cI cZ cJ ad o f u)) (hS : va_S (fun q : Nat => s.heap.size ≤ q) s.heap H locs) (hl : lv_has ls 7 [(0, .ref b), (1, .ref (ad 0)), (2, .ref (am 0)), (3, .ref o), (4, .int i)]) (kk : ∀ (u' : GS) (v' : MS) (f' : Nat → Int64) (H : Heap) (locs : List Loc) (ls : Array Slot), Rel u' v' → va_P D vwCl (wM cI cZ am v' ++ wL cI cZ cJ ad o f' u') H → va_D (fun q : Nat => s.heap.size ≤ q) (wM cI cZ am v' ++ wL cI cZ cJ ad o f' u') → va_S (fun q : Nat => s.heap.size ≤ q) s.heap H locs → lv_has ls 7 [(0, .ref b), (1, .ref (ad 0)), (2, .ref (am 0)), (3, .ref o), (4, .int i)] → W p l e room_1 s m #[Value.ref b] below meth c H locs (60 + (j + 1)) (5141 + 6 * (j + 1)) (lw_Z below #[Value.ref b] s) (F0 m 1764 ls [])) : W p l e room_1 s m #[Value.ref b] below meth c H locs (60 + j) (5141 + 6 * j) (lw_Z below #[Value.ref b] s) (F0 m 960 ls []) := by
  obtain ⟨hx, hb, hr, hml, hown, hts0, hX, hbl, hlocks, hgv⟩ := id C0
  have hts : ∀ w ∈ Wall, w.before #[Value.ref b] s = true := fun w h => hts0 w (wall_tbl w h)
  have hA : ∀ q : Nat, s.heap.size ≤ q → (fun q : Nat => s.heap.size ≤ q) q := fun _ h => h
  have hbA : ¬ (fun q : Nat => s.heap.size ≤ q) b := Nat.not_le.mpr hbl
  obtain ⟨r, u', v', hc, hm, hrel⟩ := hsim
  refine lv_aload_n hx hb dL_law_960 rfl (lv_at hl 1 rfl) ?_
  refine cc_iVF (As := []) (rest := []) (wr := (wM cI cZ am v ++ [(o, .inl (cJ, 1, .inr (.inl f)))])) ⟨hx, hb, hml, hown, hts⟩ (k_X9_shutShoulder l D cI cZ ad u hc) (cwV 0 hts (gwV mw_351 mw_352 mw_353 mw_48 mw_354) rfl rfl rfl (by decide +kernel) ⟨(Nat.le_of_ble_eq_true rfl), (Nat.le_of_ble_eq_true rfl)⟩) (hK.sub [0, 1] rfl) hP hD hS hA hZ [25, 26, 27, 28, 29, 30, 31, 32, 33, 34, 35, 36, 37, 38, 39, 40, 41, 42, 43, 44, 45, 46, 47, 48, 49, 50, 51, 52, 53, 54, 55, 56, 57, 58, 59] [0, 1, 2, 3, 4, 5, 6, 7, 8, 9, 10, 11, 12, 13, 14, 15, 16, 17, 18, 19, 20, 21, 22, 23, 24] rfl rfl (by decide) rfl (by decide) (by decide) (ci := 9) (q0 := 0) rfl rfl rfl hl.1 rfl (Nat.le_of_ble_eq_true rfl) dL_law_961 ⟨by show 60 + j ≤ 1087; omega, by show 5141 + 6 * j ≤ 13351; omega⟩ (fun H locs hP hD hS => ?_)
  replace hP : va_P D vwCl (wM cI cZ am v ++ wL cI cZ cJ ad o f u') H := hP
  replace hD : va_D (fun q : Nat => s.heap.size ≤ q) (wM cI cZ am v ++ wL cI cZ cJ ad o f u') := hD
  refine W.widen (k := 60 + (j + 1)) (n := 5141 + 6 * (j + 1)) (by omega) (by omega) ?_
  refine lv_aload_n hx hb dL_law_964 rfl (lv_at hl 2 rfl) ?_
  refine cc_iVF (As := []) (rest := [.int r]) (wr := wL cI cZ cJ ad o f u') ⟨hx, hb, hml, hown, hts⟩ (k_X10_shutShoulder l D cI cZ am v hm) (cwV 0 hts (gwV mw_1086 mw_1087 mw_1088 mw_59 mw_1089) rfl rfl rfl (by decide +kernel) ⟨(Nat.le_of_ble_eq_true rfl), (Nat.le_of_ble_eq_true rfl)⟩) (hK.sub [0, 1] rfl) hP hD hS hA hZ [0, 1, 2, 3, 4, 5, 6, 7, 8, 9, 10, 11, 12, 13, 14, 15, 16, 17, 18, 19, 20, 21, 22, 23] [24, 25, 26, 27, 28, 29, 30, 31, 32, 33, 34, 35, 36, 37, 38, 39, 40, 41, 42, 43, 44, 45, 46, 47, 48, 49, 50, 51, 52, 53, 54, 55, 56, 57, 58, 59] rfl rfl (by decide) rfl (by decide) (by decide) (ci := 10) (q0 := 0) rfl rfl rfl hl.1 rfl (Nat.le_of_ble_eq_true rfl) dL_law_965 ⟨by show 60 + (j + 1) ≤ 1087; omega, by show 5141 + 6 * (j + 1) ≤ 13351; omega⟩ (fun H locs hP hD hS => ?_)
  replace hP : va_P D vwCl (wM cI cZ am v' ++ wL cI cZ cJ ad o f u') H := hP.sub [36, 37, 38, 39, 40, 41, 42, 43, 44, 45, 46, 47, 48, 49, 50, 51, 52, 53, 54, 55, 56, 57, 58, 59, 0, 1, 2, 3, 4, 5, 6, 7, 8, 9, 10, 11, 12, 13, 14, 15, 16, 17, 18, 19, 20, 21, 22, 23, 24, 25, 26, 27, 28, 29, 30, 31, 32, 33, 34, 35] rfl
  replace hD : va_D (fun q : Nat => s.heap.size ≤ q) (wM cI cZ am v' ++ wL cI cZ cJ ad o f u') := hD.sub [36, 37, 38, 39, 40, 41, 42, 43, 44, 45, 46, 47, 48, 49, 50, 51, 52, 53, 54, 55, 56, 57, 58, 59, 0, 1, 2, 3, 4, 5, 6, 7, 8, 9, 10, 11, 12, 13, 14, 15, 16, 17, 18, 19, 20, 21, 22, 23, 24, 25, 26, 27, 28, 29, 30, 31, 32, 33, 34, 35] (by decide) rfl
  refine lv_icmp_eq (tgt := 1764) hx hb dL_law_968 (by decide) (fun _ => ?_) (fun c1 => absurd rfl c1)
  exact kk _ _ _ _ _ ls hrel hP hD hS (lv_sub hl [0, 1, 2, 3, 4] rfl)

set_option maxHeartbeats 4000000 in
set_option maxRecDepth 100000 in
theorem lc_stop {p : Program} {l : Launch} {e : Env} {s : State} {m : MethodId} {below : List Frame} {meth : Method} {c : Code} {b L : Nat} {xs : Nat → Int32} (hl0 : l.stackTraces = false) (C0 : lw_At p s m meth c b L xs) (hZ : cst (fun q : Nat => s.heap.size ≤ q) s) {D : va_G} {cI cZ cJ : ClassId} (hK : va_K D vwCl [(cI, .int), (cZ, .boolean), (cJ, .long)] s) {Rel : GS → MS → Prop} {am ad : Nat → Nat} {o : Nat} {f : Nat → Int64} {u : GS} {v : MS} {i : Int32} {j : Nat} (hj : j ≤ 511) (hi : lin i L) {p1 : Int32} (hp1 : xs (i + 1).toNatClampNeg = p1) {p2 : Int32} (hp2 : xs (i + 2).toNatClampNeg = p2) (hsim : SV Rel (g_X9_stop u p1 p2) (g_X10_stop v p1 p2) [("java/lang/IndexOutOfBoundsException", 1), ("java/lang/IllegalStateException", 2)]) {H : Heap} {locs : List Loc} {ls : Array Slot} (hP : va_P D vwCl (wM cI cZ am v ++ wL cI cZ cJ ad o f u) H) (hD : va_D (fun q : Nat => s.heap.size ≤ q) (wM cI cZ am v ++ wL cI cZ cJ ad o f u)) (hS : va_S (fun q : Nat => s.heap.size ≤ q) s.heap H locs) (hl : lv_has ls 7 [(0, .ref b), (1, .ref (ad 0)), (2, .ref (am 0)), (3, .ref o), (4, .int i)]) (kk : ∀ (u' : GS) (v' : MS) (f' : Nat → Int64) (H : Heap) (locs : List Loc) (ls : Array Slot), Rel u' v' → va_P D vwCl (wM cI cZ am v' ++ wL cI cZ cJ ad o f' u') H → va_D (fun q : Nat => s.heap.size ≤ q) (wM cI cZ am v' ++ wL cI cZ cJ ad o f' u') → va_S (fun q : Nat => s.heap.size ≤ q) s.heap H locs → lv_has ls 7 [(0, .ref b), (1, .ref (ad 0)), (2, .ref (am 0)), (3, .ref o), (4, .int i)] → W p l e room_1 s m #[Value.ref b] below meth c H locs (60 + (j + 1)) (5141 + 6 * (j + 1)) (lw_Z below #[Value.ref b] s) (F0 m 1764 ls [])) : W p l e room_1 s m #[Value.ref b] below meth c H locs (60 + j) (5141 + 6 * j) (lw_Z below #[Value.ref b] s) (F0 m 973 ls []) := by
  obtain ⟨hx, hb, hr, hml, hown, hts0, hX, hbl, hlocks, hgv⟩ := id C0
  have hts : ∀ w ∈ Wall, w.before #[Value.ref b] s = true := fun w h => hts0 w (wall_tbl w h)
  have hA : ∀ q : Nat, s.heap.size ≤ q → (fun q : Nat => s.heap.size ≤ q) q := fun _ h => h
  have hbA : ¬ (fun q : Nat => s.heap.size ≤ q) b := Nat.not_le.mpr hbl
  obtain ⟨-, hi1, hi2, hi3, hi4, hi5⟩ := hi
  rcases hsim with ⟨r, u', v', hc, hm, ht, hrel⟩ | ⟨q, u', v', hq, hc, hm, ht, hrel⟩
  · refine lv_aload_n hx hb dL_law_973 rfl (lv_at hl 1 rfl) ?_
    refine lv_aload_n hx hb dL_law_974 rfl (lv_at hl 0 rfl) ?_
    refine lv_iload hx hb dL_law_975 (lv_at hl 4 rfl) ?_
    refine lv_iconst (v := 1) hx hb dL_law_977 (by decide) ?_
    refine lv_iadd hx hb dL_law_978 ?_
    refine va_sld hx hb hX hbl hbA hS hi1 dL_law_979 ?_
    refine lv_topn hp1 ?_
    refine lv_aload_n hx hb dL_law_980 rfl (lv_at hl 0 rfl) ?_
    refine lv_iload hx hb dL_law_981 (lv_at hl 4 rfl) ?_
    refine lv_iconst (v := 2) hx hb dL_law_983 (by decide) ?_
    refine lv_iadd hx hb dL_law_984 ?_
    refine va_sld hx hb hX hbl hbA hS hi2 dL_law_985 ?_
    refine lv_topn hp2 ?_
    refine cc_iSHF (As := [.ref (ad 0), .int p1, .int p2]) (rest := []) (wr := (wM cI cZ am v ++ [(o, .inl (cJ, 1, .inr (.inl f)))])) ⟨hx, hb, hml, hown, hts⟩ (k_L_stop l D cI cZ cJ ad o f u p1 p2 hc) (vx_cwSW 3 hts (gwSH mw_703 mw_704 mw_47 mw_705) rfl rfl rfl (by decide +kernel) ⟨(Nat.le_of_ble_eq_true rfl), (Nat.le_of_ble_eq_true rfl)⟩) hK hP hD hS hA hZ [25, 26, 27, 28, 29, 30, 31, 32, 33, 34, 35, 36, 37, 38, 39, 40, 41, 42, 43, 44, 45, 46, 47, 48, 49, 50, 51, 52, 53, 54, 55, 56, 57, 58, 59] [0, 1, 2, 3, 4, 5, 6, 7, 8, 9, 10, 11, 12, 13, 14, 15, 16, 17, 18, 19, 20, 21, 22, 23, 24] rfl rfl (by decide) rfl (by decide) (by decide) rfl hl.1 rfl (Nat.le_of_ble_eq_true rfl) dL_law_986 ⟨by show 60 + j ≤ 1087; omega, by show 5141 + 6 * j ≤ 13351; omega⟩ (fun H locs hP hD hS => ?_)
    replace hP : va_P D vwCl (wM cI cZ am v ++ wL cI cZ cJ ad o f u') H := hP
    replace hD : va_D (fun q : Nat => s.heap.size ≤ q) (wM cI cZ am v ++ wL cI cZ cJ ad o f u') := hD
    refine W.widen (k := 60 + (j + 1)) (n := 5141 + 6 * (j + 1)) (by omega) (by omega) ?_
    refine lv_istore (lv' := [(5, .int 0), (0, .ref b), (1, .ref (ad 0)), (2, .ref (am 0)), (3, .ref o), (4, .int i)]) hx hb dL_law_989 hl (by decide) rfl (fun ls hl => ?_)
    refine lv_aload_n hx hb dL_law_991 rfl (lv_at hl 3 rfl) ?_
    refine lv_aload_n hx hb dL_law_992 rfl (lv_at hl 1 rfl) ?_
    refine lv_iload hx hb dL_law_993 (lv_at hl 5 rfl) ?_
    refine lv_iconst (v := 1) hx hb dL_law_995 (by decide) ?_
    refine lv_iadd hx hb dL_law_996 ?_
    refine va_sld hx hb hX hbl hbA hS hi1 dL_law_997 ?_
    refine lv_topn hp1 ?_
    refine lv_aload_n hx hb dL_law_998 rfl (lv_at hl 1 rfl) ?_
    refine lv_iload hx hb dL_law_999 (lv_at hl 5 rfl) ?_
    refine lv_iconst (v := 2) hx hb dL_law_1001 (by decide) ?_
    refine lv_iadd hx hb dL_law_1002 ?_
    refine va_sld hx hb hX hbl hbA hS hi2 dL_law_1003 ?_
    refine lv_topn hp2 ?_
    refine cc_vVF (As := [.int p1, .int p2]) (rest := []) (wr := wL cI cZ cJ ad o f u') ⟨hx, hb, hml, hown, hts⟩ (k_X10_stop l D cI cZ am v p1 p2 hm) (cwV 2 hts (gwV mw_1094 mw_1095 mw_1096 mw_59 mw_1097) rfl rfl rfl (by decide +kernel) ⟨(Nat.le_of_ble_eq_true rfl), (Nat.le_of_ble_eq_true rfl)⟩) (hK.sub [0, 1] rfl) hP hD hS hA hZ [0, 1, 2, 3, 4, 5, 6, 7, 8, 9, 10, 11, 12, 13, 14, 15, 16, 17, 18, 19, 20, 21, 22, 23] [24, 25, 26, 27, 28, 29, 30, 31, 32, 33, 34, 35, 36, 37, 38, 39, 40, 41, 42, 43, 44, 45, 46, 47, 48, 49, 50, 51, 52, 53, 54, 55, 56, 57, 58, 59] rfl rfl (by decide) rfl (by decide) (by decide) (ci := 10) (q0 := 0) rfl rfl rfl hl.1 rfl (Nat.le_of_ble_eq_true rfl) dL_law_1004 ⟨by show 60 + (j + 1) ≤ 1087; omega, by show 5141 + 6 * (j + 1) ≤ 13351; omega⟩ (fun H locs hP hD hS => ?_)
    replace hP : va_P D vwCl (wM cI cZ am v' ++ wL cI cZ cJ ad o f u') H := hP.sub [36, 37, 38, 39, 40, 41, 42, 43, 44, 45, 46, 47, 48, 49, 50, 51, 52, 53, 54, 55, 56, 57, 58, 59, 0, 1, 2, 3, 4, 5, 6, 7, 8, 9, 10, 11, 12, 13, 14, 15, 16, 17, 18, 19, 20, 21, 22, 23, 24, 25, 26, 27, 28, 29, 30, 31, 32, 33, 34, 35] rfl
    replace hD : va_D (fun q : Nat => s.heap.size ≤ q) (wM cI cZ am v' ++ wL cI cZ cJ ad o f u') := hD.sub [36, 37, 38, 39, 40, 41, 42, 43, 44, 45, 46, 47, 48, 49, 50, 51, 52, 53, 54, 55, 56, 57, 58, 59, 0, 1, 2, 3, 4, 5, 6, 7, 8, 9, 10, 11, 12, 13, 14, 15, 16, 17, 18, 19, 20, 21, 22, 23, 24, 25, 26, 27, 28, 29, 30, 31, 32, 33, 34, 35] (by decide) rfl
    refine lv_aload_n hx hb dL_law_1007 rfl (lv_at hl 3 rfl) ?_
    refine cc_iVF (As := []) (rest := []) (wr := wL cI cZ cJ ad o f u') ⟨hx, hb, hml, hown, hts⟩ (k_X10_thrown l D cI cZ am v' rfl) (cwV 0 hts (gwV mw_968 mw_969 mw_970 mw_59 mw_971) rfl rfl rfl (by decide +kernel) ⟨(Nat.le_of_ble_eq_true rfl), (Nat.le_of_ble_eq_true rfl)⟩) (hK.sub [0, 1] rfl) hP hD hS hA hZ [0, 1, 2, 3, 4, 5, 6, 7, 8, 9, 10, 11, 12, 13, 14, 15, 16, 17, 18, 19, 20, 21, 22, 23] [24, 25, 26, 27, 28, 29, 30, 31, 32, 33, 34, 35, 36, 37, 38, 39, 40, 41, 42, 43, 44, 45, 46, 47, 48, 49, 50, 51, 52, 53, 54, 55, 56, 57, 58, 59] rfl rfl (by decide) rfl (by decide) (by decide) (ci := 10) (q0 := 0) rfl rfl rfl hl.1 rfl (Nat.le_of_ble_eq_true rfl) dL_law_1008 ⟨by show 60 + (j + 1) ≤ 1087; omega, by show 5141 + 6 * (j + 1) ≤ 13351; omega⟩ (fun H locs hP hD hS => ?_)
    replace hP : va_P D vwCl (wM cI cZ am v' ++ wL cI cZ cJ ad o f u') H := hP.sub [36, 37, 38, 39, 40, 41, 42, 43, 44, 45, 46, 47, 48, 49, 50, 51, 52, 53, 54, 55, 56, 57, 58, 59, 0, 1, 2, 3, 4, 5, 6, 7, 8, 9, 10, 11, 12, 13, 14, 15, 16, 17, 18, 19, 20, 21, 22, 23, 24, 25, 26, 27, 28, 29, 30, 31, 32, 33, 34, 35] rfl
    replace hD : va_D (fun q : Nat => s.heap.size ≤ q) (wM cI cZ am v' ++ wL cI cZ cJ ad o f u') := hD.sub [36, 37, 38, 39, 40, 41, 42, 43, 44, 45, 46, 47, 48, 49, 50, 51, 52, 53, 54, 55, 56, 57, 58, 59, 0, 1, 2, 3, 4, 5, 6, 7, 8, 9, 10, 11, 12, 13, 14, 15, 16, 17, 18, 19, 20, 21, 22, 23, 24, 25, 26, 27, 28, 29, 30, 31, 32, 33, 34, 35] (by decide) rfl
    refine lv_iload hx hb dL_law_1011 (lv_at hl 0 rfl) ?_
    refine lv_icmp_eq (tgt := 1018) hx hb dL_law_1013 (by decide) (fun _ => ?_) (fun c1 => absurd ht c1)
    refine lv_goto (tgt := 1764) hx hb dL_law_1018 (by decide) ?_
    exact kk _ _ _ _ _ ls hrel hP hD hS (lv_sub hl [1, 2, 3, 4, 5] rfl)
  · rcases List.mem_cons.mp hq with rfl | hq
    · refine lv_aload_n hx hb dL_law_973 rfl (lv_at hl 1 rfl) ?_
      refine lv_aload_n hx hb dL_law_974 rfl (lv_at hl 0 rfl) ?_
      refine lv_iload hx hb dL_law_975 (lv_at hl 4 rfl) ?_
      refine lv_iconst (v := 1) hx hb dL_law_977 (by decide) ?_
      refine lv_iadd hx hb dL_law_978 ?_
      refine va_sld hx hb hX hbl hbA hS hi1 dL_law_979 ?_
      refine lv_topn hp1 ?_
      refine lv_aload_n hx hb dL_law_980 rfl (lv_at hl 0 rfl) ?_
      refine lv_iload hx hb dL_law_981 (lv_at hl 4 rfl) ?_
      refine lv_iconst (v := 2) hx hb dL_law_983 (by decide) ?_
      refine lv_iadd hx hb dL_law_984 ?_
      refine va_sld hx hb hX hbl hbA hS hi2 dL_law_985 ?_
      refine lv_topn hp2 ?_
      refine cc_iSHF (As := [.ref (ad 0), .int p1, .int p2]) (rest := []) (wr := (wM cI cZ am v ++ [(o, .inl (cJ, 1, .inr (.inl f)))])) ⟨hx, hb, hml, hown, hts⟩ (kx1_L_stop l hl0 D cI cZ cJ ad o f u p1 p2 hc) (vx_cwSW 3 hts (gwSH mw_703 mw_704 mw_47 mw_705) rfl rfl rfl (by decide +kernel) ⟨(Nat.le_of_ble_eq_true rfl), (Nat.le_of_ble_eq_true rfl)⟩) hK hP hD hS hA hZ [25, 26, 27, 28, 29, 30, 31, 32, 33, 34, 35, 36, 37, 38, 39, 40, 41, 42, 43, 44, 45, 46, 47, 48, 49, 50, 51, 52, 53, 54, 55, 56, 57, 58, 59] [0, 1, 2, 3, 4, 5, 6, 7, 8, 9, 10, 11, 12, 13, 14, 15, 16, 17, 18, 19, 20, 21, 22, 23, 24] rfl rfl (by decide) rfl (by decide) (by decide) rfl hl.1 rfl (Nat.le_of_ble_eq_true rfl) dL_law_986 ⟨by show 60 + j + 1 ≤ 1087; omega, by show 5141 + 6 * j + 6 ≤ 13351; omega⟩ (fun H locs hP hD hS => ?_)
      replace hP : va_P D vwCl (wM cI cZ am v ++ wL cI cZ cJ ad o f u') H := hP
      replace hD : va_D (fun q : Nat => s.heap.size ≤ q) (wM cI cZ am v ++ wL cI cZ cJ ad o f u') := hD
      refine W.widen (k := 60 + (j + 1)) (n := 5141 + 6 * (j + 1)) (by omega) (by omega) ?_
      refine lv_istore (lv' := [(5, .int 1), (0, .ref b), (1, .ref (ad 0)), (2, .ref (am 0)), (3, .ref o), (4, .int i)]) hx hb dL_law_989 hl (by decide) rfl (fun ls hl => ?_)
      refine lv_aload_n hx hb dL_law_991 rfl (lv_at hl 3 rfl) ?_
      refine lv_aload_n hx hb dL_law_992 rfl (lv_at hl 1 rfl) ?_
      refine lv_iload hx hb dL_law_993 (lv_at hl 5 rfl) ?_
      refine lv_iconst (v := 1) hx hb dL_law_995 (by decide) ?_
      refine lv_iadd hx hb dL_law_996 ?_
      refine va_sld hx hb hX hbl hbA hS hi1 dL_law_997 ?_
      refine lv_topn hp1 ?_
      refine lv_aload_n hx hb dL_law_998 rfl (lv_at hl 1 rfl) ?_
      refine lv_iload hx hb dL_law_999 (lv_at hl 5 rfl) ?_
      refine lv_iconst (v := 2) hx hb dL_law_1001 (by decide) ?_
      refine lv_iadd hx hb dL_law_1002 ?_
      refine va_sld hx hb hX hbl hbA hS hi2 dL_law_1003 ?_
      refine lv_topn hp2 ?_
      refine cc_vVF (As := [.int p1, .int p2]) (rest := []) (wr := wL cI cZ cJ ad o f u') ⟨hx, hb, hml, hown, hts⟩ (k_X10_stop l D cI cZ am v p1 p2 hm) (cwV 2 hts (gwV mw_1094 mw_1095 mw_1096 mw_59 mw_1097) rfl rfl rfl (by decide +kernel) ⟨(Nat.le_of_ble_eq_true rfl), (Nat.le_of_ble_eq_true rfl)⟩) (hK.sub [0, 1] rfl) hP hD hS hA hZ [0, 1, 2, 3, 4, 5, 6, 7, 8, 9, 10, 11, 12, 13, 14, 15, 16, 17, 18, 19, 20, 21, 22, 23] [24, 25, 26, 27, 28, 29, 30, 31, 32, 33, 34, 35, 36, 37, 38, 39, 40, 41, 42, 43, 44, 45, 46, 47, 48, 49, 50, 51, 52, 53, 54, 55, 56, 57, 58, 59] rfl rfl (by decide) rfl (by decide) (by decide) (ci := 10) (q0 := 0) rfl rfl rfl hl.1 rfl (Nat.le_of_ble_eq_true rfl) dL_law_1004 ⟨by show 60 + (j + 1) ≤ 1087; omega, by show 5141 + 6 * (j + 1) ≤ 13351; omega⟩ (fun H locs hP hD hS => ?_)
      replace hP : va_P D vwCl (wM cI cZ am v' ++ wL cI cZ cJ ad o f u') H := hP.sub [36, 37, 38, 39, 40, 41, 42, 43, 44, 45, 46, 47, 48, 49, 50, 51, 52, 53, 54, 55, 56, 57, 58, 59, 0, 1, 2, 3, 4, 5, 6, 7, 8, 9, 10, 11, 12, 13, 14, 15, 16, 17, 18, 19, 20, 21, 22, 23, 24, 25, 26, 27, 28, 29, 30, 31, 32, 33, 34, 35] rfl
      replace hD : va_D (fun q : Nat => s.heap.size ≤ q) (wM cI cZ am v' ++ wL cI cZ cJ ad o f u') := hD.sub [36, 37, 38, 39, 40, 41, 42, 43, 44, 45, 46, 47, 48, 49, 50, 51, 52, 53, 54, 55, 56, 57, 58, 59, 0, 1, 2, 3, 4, 5, 6, 7, 8, 9, 10, 11, 12, 13, 14, 15, 16, 17, 18, 19, 20, 21, 22, 23, 24, 25, 26, 27, 28, 29, 30, 31, 32, 33, 34, 35] (by decide) rfl
      refine lv_aload_n hx hb dL_law_1007 rfl (lv_at hl 3 rfl) ?_
      refine cc_iVF (As := []) (rest := []) (wr := wL cI cZ cJ ad o f u') ⟨hx, hb, hml, hown, hts⟩ (k_X10_thrown l D cI cZ am v' rfl) (cwV 0 hts (gwV mw_968 mw_969 mw_970 mw_59 mw_971) rfl rfl rfl (by decide +kernel) ⟨(Nat.le_of_ble_eq_true rfl), (Nat.le_of_ble_eq_true rfl)⟩) (hK.sub [0, 1] rfl) hP hD hS hA hZ [0, 1, 2, 3, 4, 5, 6, 7, 8, 9, 10, 11, 12, 13, 14, 15, 16, 17, 18, 19, 20, 21, 22, 23] [24, 25, 26, 27, 28, 29, 30, 31, 32, 33, 34, 35, 36, 37, 38, 39, 40, 41, 42, 43, 44, 45, 46, 47, 48, 49, 50, 51, 52, 53, 54, 55, 56, 57, 58, 59] rfl rfl (by decide) rfl (by decide) (by decide) (ci := 10) (q0 := 0) rfl rfl rfl hl.1 rfl (Nat.le_of_ble_eq_true rfl) dL_law_1008 ⟨by show 60 + (j + 1) ≤ 1087; omega, by show 5141 + 6 * (j + 1) ≤ 13351; omega⟩ (fun H locs hP hD hS => ?_)
      replace hP : va_P D vwCl (wM cI cZ am v' ++ wL cI cZ cJ ad o f u') H := hP.sub [36, 37, 38, 39, 40, 41, 42, 43, 44, 45, 46, 47, 48, 49, 50, 51, 52, 53, 54, 55, 56, 57, 58, 59, 0, 1, 2, 3, 4, 5, 6, 7, 8, 9, 10, 11, 12, 13, 14, 15, 16, 17, 18, 19, 20, 21, 22, 23, 24, 25, 26, 27, 28, 29, 30, 31, 32, 33, 34, 35] rfl
      replace hD : va_D (fun q : Nat => s.heap.size ≤ q) (wM cI cZ am v' ++ wL cI cZ cJ ad o f u') := hD.sub [36, 37, 38, 39, 40, 41, 42, 43, 44, 45, 46, 47, 48, 49, 50, 51, 52, 53, 54, 55, 56, 57, 58, 59, 0, 1, 2, 3, 4, 5, 6, 7, 8, 9, 10, 11, 12, 13, 14, 15, 16, 17, 18, 19, 20, 21, 22, 23, 24, 25, 26, 27, 28, 29, 30, 31, 32, 33, 34, 35] (by decide) rfl
      refine lv_iload hx hb dL_law_1011 (lv_at hl 0 rfl) ?_
      refine lv_icmp_eq (tgt := 1018) hx hb dL_law_1013 (by decide) (fun _ => ?_) (fun c1 => absurd ht c1)
      refine lv_goto (tgt := 1764) hx hb dL_law_1018 (by decide) ?_
      exact kk _ _ _ _ _ ls hrel hP hD hS (lv_sub hl [1, 2, 3, 4, 5] rfl)
    · rcases List.mem_cons.mp hq with rfl | hq
      · refine lv_aload_n hx hb dL_law_973 rfl (lv_at hl 1 rfl) ?_
        refine lv_aload_n hx hb dL_law_974 rfl (lv_at hl 0 rfl) ?_
        refine lv_iload hx hb dL_law_975 (lv_at hl 4 rfl) ?_
        refine lv_iconst (v := 1) hx hb dL_law_977 (by decide) ?_
        refine lv_iadd hx hb dL_law_978 ?_
        refine va_sld hx hb hX hbl hbA hS hi1 dL_law_979 ?_
        refine lv_topn hp1 ?_
        refine lv_aload_n hx hb dL_law_980 rfl (lv_at hl 0 rfl) ?_
        refine lv_iload hx hb dL_law_981 (lv_at hl 4 rfl) ?_
        refine lv_iconst (v := 2) hx hb dL_law_983 (by decide) ?_
        refine lv_iadd hx hb dL_law_984 ?_
        refine va_sld hx hb hX hbl hbA hS hi2 dL_law_985 ?_
        refine lv_topn hp2 ?_
        refine cc_iSHF (As := [.ref (ad 0), .int p1, .int p2]) (rest := []) (wr := (wM cI cZ am v ++ [(o, .inl (cJ, 1, .inr (.inl f)))])) ⟨hx, hb, hml, hown, hts⟩ (kx2_L_stop l hl0 D cI cZ cJ ad o f u p1 p2 hc) (vx_cwSW 3 hts (gwSH mw_703 mw_704 mw_47 mw_705) rfl rfl rfl (by decide +kernel) ⟨(Nat.le_of_ble_eq_true rfl), (Nat.le_of_ble_eq_true rfl)⟩) hK hP hD hS hA hZ [25, 26, 27, 28, 29, 30, 31, 32, 33, 34, 35, 36, 37, 38, 39, 40, 41, 42, 43, 44, 45, 46, 47, 48, 49, 50, 51, 52, 53, 54, 55, 56, 57, 58, 59] [0, 1, 2, 3, 4, 5, 6, 7, 8, 9, 10, 11, 12, 13, 14, 15, 16, 17, 18, 19, 20, 21, 22, 23, 24] rfl rfl (by decide) rfl (by decide) (by decide) rfl hl.1 rfl (Nat.le_of_ble_eq_true rfl) dL_law_986 ⟨by show 60 + j + 1 ≤ 1087; omega, by show 5141 + 6 * j + 6 ≤ 13351; omega⟩ (fun H locs hP hD hS => ?_)
        replace hP : va_P D vwCl (wM cI cZ am v ++ wL cI cZ cJ ad o f u') H := hP
        replace hD : va_D (fun q : Nat => s.heap.size ≤ q) (wM cI cZ am v ++ wL cI cZ cJ ad o f u') := hD
        refine W.widen (k := 60 + (j + 1)) (n := 5141 + 6 * (j + 1)) (by omega) (by omega) ?_
        refine lv_istore (lv' := [(5, .int 2), (0, .ref b), (1, .ref (ad 0)), (2, .ref (am 0)), (3, .ref o), (4, .int i)]) hx hb dL_law_989 hl (by decide) rfl (fun ls hl => ?_)
        refine lv_aload_n hx hb dL_law_991 rfl (lv_at hl 3 rfl) ?_
        refine lv_aload_n hx hb dL_law_992 rfl (lv_at hl 1 rfl) ?_
        refine lv_iload hx hb dL_law_993 (lv_at hl 5 rfl) ?_
        refine lv_iconst (v := 1) hx hb dL_law_995 (by decide) ?_
        refine lv_iadd hx hb dL_law_996 ?_
        refine va_sld hx hb hX hbl hbA hS hi1 dL_law_997 ?_
        refine lv_topn hp1 ?_
        refine lv_aload_n hx hb dL_law_998 rfl (lv_at hl 1 rfl) ?_
        refine lv_iload hx hb dL_law_999 (lv_at hl 5 rfl) ?_
        refine lv_iconst (v := 2) hx hb dL_law_1001 (by decide) ?_
        refine lv_iadd hx hb dL_law_1002 ?_
        refine va_sld hx hb hX hbl hbA hS hi2 dL_law_1003 ?_
        refine lv_topn hp2 ?_
        refine cc_vVF (As := [.int p1, .int p2]) (rest := []) (wr := wL cI cZ cJ ad o f u') ⟨hx, hb, hml, hown, hts⟩ (k_X10_stop l D cI cZ am v p1 p2 hm) (cwV 2 hts (gwV mw_1094 mw_1095 mw_1096 mw_59 mw_1097) rfl rfl rfl (by decide +kernel) ⟨(Nat.le_of_ble_eq_true rfl), (Nat.le_of_ble_eq_true rfl)⟩) (hK.sub [0, 1] rfl) hP hD hS hA hZ [0, 1, 2, 3, 4, 5, 6, 7, 8, 9, 10, 11, 12, 13, 14, 15, 16, 17, 18, 19, 20, 21, 22, 23] [24, 25, 26, 27, 28, 29, 30, 31, 32, 33, 34, 35, 36, 37, 38, 39, 40, 41, 42, 43, 44, 45, 46, 47, 48, 49, 50, 51, 52, 53, 54, 55, 56, 57, 58, 59] rfl rfl (by decide) rfl (by decide) (by decide) (ci := 10) (q0 := 0) rfl rfl rfl hl.1 rfl (Nat.le_of_ble_eq_true rfl) dL_law_1004 ⟨by show 60 + (j + 1) ≤ 1087; omega, by show 5141 + 6 * (j + 1) ≤ 13351; omega⟩ (fun H locs hP hD hS => ?_)
        replace hP : va_P D vwCl (wM cI cZ am v' ++ wL cI cZ cJ ad o f u') H := hP.sub [36, 37, 38, 39, 40, 41, 42, 43, 44, 45, 46, 47, 48, 49, 50, 51, 52, 53, 54, 55, 56, 57, 58, 59, 0, 1, 2, 3, 4, 5, 6, 7, 8, 9, 10, 11, 12, 13, 14, 15, 16, 17, 18, 19, 20, 21, 22, 23, 24, 25, 26, 27, 28, 29, 30, 31, 32, 33, 34, 35] rfl
        replace hD : va_D (fun q : Nat => s.heap.size ≤ q) (wM cI cZ am v' ++ wL cI cZ cJ ad o f u') := hD.sub [36, 37, 38, 39, 40, 41, 42, 43, 44, 45, 46, 47, 48, 49, 50, 51, 52, 53, 54, 55, 56, 57, 58, 59, 0, 1, 2, 3, 4, 5, 6, 7, 8, 9, 10, 11, 12, 13, 14, 15, 16, 17, 18, 19, 20, 21, 22, 23, 24, 25, 26, 27, 28, 29, 30, 31, 32, 33, 34, 35] (by decide) rfl
        refine lv_aload_n hx hb dL_law_1007 rfl (lv_at hl 3 rfl) ?_
        refine cc_iVF (As := []) (rest := []) (wr := wL cI cZ cJ ad o f u') ⟨hx, hb, hml, hown, hts⟩ (k_X10_thrown l D cI cZ am v' rfl) (cwV 0 hts (gwV mw_968 mw_969 mw_970 mw_59 mw_971) rfl rfl rfl (by decide +kernel) ⟨(Nat.le_of_ble_eq_true rfl), (Nat.le_of_ble_eq_true rfl)⟩) (hK.sub [0, 1] rfl) hP hD hS hA hZ [0, 1, 2, 3, 4, 5, 6, 7, 8, 9, 10, 11, 12, 13, 14, 15, 16, 17, 18, 19, 20, 21, 22, 23] [24, 25, 26, 27, 28, 29, 30, 31, 32, 33, 34, 35, 36, 37, 38, 39, 40, 41, 42, 43, 44, 45, 46, 47, 48, 49, 50, 51, 52, 53, 54, 55, 56, 57, 58, 59] rfl rfl (by decide) rfl (by decide) (by decide) (ci := 10) (q0 := 0) rfl rfl rfl hl.1 rfl (Nat.le_of_ble_eq_true rfl) dL_law_1008 ⟨by show 60 + (j + 1) ≤ 1087; omega, by show 5141 + 6 * (j + 1) ≤ 13351; omega⟩ (fun H locs hP hD hS => ?_)
        replace hP : va_P D vwCl (wM cI cZ am v' ++ wL cI cZ cJ ad o f u') H := hP.sub [36, 37, 38, 39, 40, 41, 42, 43, 44, 45, 46, 47, 48, 49, 50, 51, 52, 53, 54, 55, 56, 57, 58, 59, 0, 1, 2, 3, 4, 5, 6, 7, 8, 9, 10, 11, 12, 13, 14, 15, 16, 17, 18, 19, 20, 21, 22, 23, 24, 25, 26, 27, 28, 29, 30, 31, 32, 33, 34, 35] rfl
        replace hD : va_D (fun q : Nat => s.heap.size ≤ q) (wM cI cZ am v' ++ wL cI cZ cJ ad o f u') := hD.sub [36, 37, 38, 39, 40, 41, 42, 43, 44, 45, 46, 47, 48, 49, 50, 51, 52, 53, 54, 55, 56, 57, 58, 59, 0, 1, 2, 3, 4, 5, 6, 7, 8, 9, 10, 11, 12, 13, 14, 15, 16, 17, 18, 19, 20, 21, 22, 23, 24, 25, 26, 27, 28, 29, 30, 31, 32, 33, 34, 35] (by decide) rfl
        refine lv_iload hx hb dL_law_1011 (lv_at hl 0 rfl) ?_
        refine lv_icmp_eq (tgt := 1018) hx hb dL_law_1013 (by decide) (fun _ => ?_) (fun c1 => absurd ht c1)
        refine lv_goto (tgt := 1764) hx hb dL_law_1018 (by decide) ?_
        exact kk _ _ _ _ _ ls hrel hP hD hS (lv_sub hl [1, 2, 3, 4, 5] rfl)
      · exact absurd hq List.not_mem_nil

set_option maxHeartbeats 4000000 in
set_option maxRecDepth 100000 in
theorem lc_report {p : Program} {l : Launch} {e : Env} {s : State} {m : MethodId} {below : List Frame} {meth : Method} {c : Code} {b L : Nat} {xs : Nat → Int32} (hl0 : l.stackTraces = false) (C0 : lw_At p s m meth c b L xs) (hZ : cst (fun q : Nat => s.heap.size ≤ q) s) {D : va_G} {cI cZ cJ : ClassId} (hK : va_K D vwCl [(cI, .int), (cZ, .boolean), (cJ, .long)] s) {Rel : GS → MS → Prop} {am ad : Nat → Nat} {o : Nat} {f : Nat → Int64} {u : GS} {v : MS} {i : Int32} {j : Nat} (hj : j ≤ 511) (hi : lin i L) {p1 : Int32} (hp1 : xs (i + 1).toNatClampNeg = p1) {p2 : Int32} (hp2 : xs (i + 2).toNatClampNeg = p2) (hsim : SI Rel (g_X9_report u p1 p2) (g_X10_report v p1 p2) [("java/lang/IndexOutOfBoundsException", 1), ("java/lang/IllegalStateException", 2)]) {H : Heap} {locs : List Loc} {ls : Array Slot} (hP : va_P D vwCl (wM cI cZ am v ++ wL cI cZ cJ ad o f u) H) (hD : va_D (fun q : Nat => s.heap.size ≤ q) (wM cI cZ am v ++ wL cI cZ cJ ad o f u)) (hS : va_S (fun q : Nat => s.heap.size ≤ q) s.heap H locs) (hl : lv_has ls 7 [(0, .ref b), (1, .ref (ad 0)), (2, .ref (am 0)), (3, .ref o), (4, .int i)]) (kk : ∀ (u' : GS) (v' : MS) (f' : Nat → Int64) (H : Heap) (locs : List Loc) (ls : Array Slot), Rel u' v' → va_P D vwCl (wM cI cZ am v' ++ wL cI cZ cJ ad o f' u') H → va_D (fun q : Nat => s.heap.size ≤ q) (wM cI cZ am v' ++ wL cI cZ cJ ad o f' u') → va_S (fun q : Nat => s.heap.size ≤ q) s.heap H locs → lv_has ls 7 [(0, .ref b), (1, .ref (ad 0)), (2, .ref (am 0)), (3, .ref o), (4, .int i)] → W p l e room_1 s m #[Value.ref b] below meth c H locs (60 + (j + 1)) (5141 + 6 * (j + 1)) (lw_Z below #[Value.ref b] s) (F0 m 1764 ls [])) : W p l e room_1 s m #[Value.ref b] below meth c H locs (60 + j) (5141 + 6 * j) (lw_Z below #[Value.ref b] s) (F0 m 1021 ls []) := by
  obtain ⟨hx, hb, hr, hml, hown, hts0, hX, hbl, hlocks, hgv⟩ := id C0
  have hts : ∀ w ∈ Wall, w.before #[Value.ref b] s = true := fun w h => hts0 w (wall_tbl w h)
  have hA : ∀ q : Nat, s.heap.size ≤ q → (fun q : Nat => s.heap.size ≤ q) q := fun _ h => h
  have hbA : ¬ (fun q : Nat => s.heap.size ≤ q) b := Nat.not_le.mpr hbl
  obtain ⟨-, hi1, hi2, hi3, hi4, hi5⟩ := hi
  rcases hsim with ⟨r, u', v', hc, hm, ht, hrel⟩ | ⟨q, u', b9, v', hq, hc, hm, ht, hrel⟩
  · refine lv_aload_n hx hb dL_law_1021 rfl (lv_at hl 1 rfl) ?_
    refine lv_aload_n hx hb dL_law_1022 rfl (lv_at hl 0 rfl) ?_
    refine lv_iload hx hb dL_law_1023 (lv_at hl 4 rfl) ?_
    refine lv_iconst (v := 1) hx hb dL_law_1025 (by decide) ?_
    refine lv_iadd hx hb dL_law_1026 ?_
    refine va_sld hx hb hX hbl hbA hS hi1 dL_law_1027 ?_
    refine lv_topn hp1 ?_
    refine lv_aload_n hx hb dL_law_1028 rfl (lv_at hl 0 rfl) ?_
    refine lv_iload hx hb dL_law_1029 (lv_at hl 4 rfl) ?_
    refine lv_iconst (v := 2) hx hb dL_law_1031 (by decide) ?_
    refine lv_iadd hx hb dL_law_1032 ?_
    refine va_sld hx hb hX hbl hbA hS hi2 dL_law_1033 ?_
    refine lv_topn hp2 ?_
    refine lv_aload_n hx hb dL_law_1034 rfl (lv_at hl 3 rfl) ?_
    refine cc_iSHF (As := [.ref (ad 0), .int p1, .int p2, .ref o]) (rest := []) (wr := wM cI cZ am v) ⟨hx, hb, hml, hown, hts⟩ (k_L_report l D cI cZ cJ ad o f u p1 p2 hc) (vx_cwSW 4 hts (gwSH mw_710 mw_711 mw_47 mw_712) rfl rfl rfl (by decide +kernel) ⟨(Nat.le_of_ble_eq_true rfl), (Nat.le_of_ble_eq_true rfl)⟩) hK hP hD hS hA hZ [24, 25, 26, 27, 28, 29, 30, 31, 32, 33, 34, 35, 36, 37, 38, 39, 40, 41, 42, 43, 44, 45, 46, 47, 48, 49, 50, 51, 52, 53, 54, 55, 56, 57, 58, 59] [0, 1, 2, 3, 4, 5, 6, 7, 8, 9, 10, 11, 12, 13, 14, 15, 16, 17, 18, 19, 20, 21, 22, 23] rfl rfl (by decide) rfl (by decide) (by decide) rfl hl.1 rfl (Nat.le_of_ble_eq_true rfl) dL_law_1035 ⟨by show 60 + j ≤ 1087; omega, by show 5141 + 6 * j ≤ 13351; omega⟩ (fun H locs hP hD hS => ?_)
    replace hP : va_P D vwCl (wM cI cZ am v ++ wL cI cZ cJ ad o (vp_updL f (0 : Int32).toNatClampNeg r.toInt64) u') H := hP
    replace hD : va_D (fun q : Nat => s.heap.size ≤ q) (wM cI cZ am v ++ wL cI cZ cJ ad o (vp_updL f (0 : Int32).toNatClampNeg r.toInt64) u') := hD
    refine W.widen (k := 60 + (j + 1)) (n := 5141 + 6 * (j + 1)) (by omega) (by omega) ?_
    refine lv_istore (lv' := [(5, .int 0), (0, .ref b), (1, .ref (ad 0)), (2, .ref (am 0)), (3, .ref o), (4, .int i)]) hx hb dL_law_1038 hl (by decide) rfl (fun ls hl => ?_)
    refine lv_aload_n hx hb dL_law_1040 rfl (lv_at hl 3 rfl) ?_
    refine lv_aload_n hx hb dL_law_1041 rfl (lv_at hl 1 rfl) ?_
    refine lv_iload hx hb dL_law_1042 (lv_at hl 5 rfl) ?_
    refine lv_iconst (v := 1) hx hb dL_law_1044 (by decide) ?_
    refine lv_iadd hx hb dL_law_1045 ?_
    refine va_sld hx hb hX hbl hbA hS hi1 dL_law_1046 ?_
    refine lv_topn hp1 ?_
    refine lv_aload_n hx hb dL_law_1047 rfl (lv_at hl 1 rfl) ?_
    refine lv_iload hx hb dL_law_1048 (lv_at hl 5 rfl) ?_
    refine lv_iconst (v := 2) hx hb dL_law_1050 (by decide) ?_
    refine lv_iadd hx hb dL_law_1051 ?_
    refine va_sld hx hb hX hbl hbA hS hi2 dL_law_1052 ?_
    refine lv_topn hp2 ?_
    refine cc_iVF (As := [.int p1, .int p2]) (rest := []) (wr := wL cI cZ cJ ad o (vp_updL f (0 : Int32).toNatClampNeg r.toInt64) u') ⟨hx, hb, hml, hown, hts⟩ (k_X10_report l D cI cZ am v p1 p2 hm) (cwV 2 hts (gwV mw_1098 mw_1099 mw_1100 mw_59 mw_1101) rfl rfl rfl (by decide +kernel) ⟨(Nat.le_of_ble_eq_true rfl), (Nat.le_of_ble_eq_true rfl)⟩) (hK.sub [0, 1] rfl) hP hD hS hA hZ [0, 1, 2, 3, 4, 5, 6, 7, 8, 9, 10, 11, 12, 13, 14, 15, 16, 17, 18, 19, 20, 21, 22, 23] [24, 25, 26, 27, 28, 29, 30, 31, 32, 33, 34, 35, 36, 37, 38, 39, 40, 41, 42, 43, 44, 45, 46, 47, 48, 49, 50, 51, 52, 53, 54, 55, 56, 57, 58, 59] rfl rfl (by decide) rfl (by decide) (by decide) (ci := 10) (q0 := 0) rfl rfl rfl hl.1 rfl (Nat.le_of_ble_eq_true rfl) dL_law_1053 ⟨by show 60 + (j + 1) ≤ 1087; omega, by show 5141 + 6 * (j + 1) ≤ 13351; omega⟩ (fun H locs hP hD hS => ?_)
    replace hP : va_P D vwCl (wM cI cZ am v' ++ wL cI cZ cJ ad o (vp_updL f (0 : Int32).toNatClampNeg r.toInt64) u') H := hP.sub [36, 37, 38, 39, 40, 41, 42, 43, 44, 45, 46, 47, 48, 49, 50, 51, 52, 53, 54, 55, 56, 57, 58, 59, 0, 1, 2, 3, 4, 5, 6, 7, 8, 9, 10, 11, 12, 13, 14, 15, 16, 17, 18, 19, 20, 21, 22, 23, 24, 25, 26, 27, 28, 29, 30, 31, 32, 33, 34, 35] rfl
    replace hD : va_D (fun q : Nat => s.heap.size ≤ q) (wM cI cZ am v' ++ wL cI cZ cJ ad o (vp_updL f (0 : Int32).toNatClampNeg r.toInt64) u') := hD.sub [36, 37, 38, 39, 40, 41, 42, 43, 44, 45, 46, 47, 48, 49, 50, 51, 52, 53, 54, 55, 56, 57, 58, 59, 0, 1, 2, 3, 4, 5, 6, 7, 8, 9, 10, 11, 12, 13, 14, 15, 16, 17, 18, 19, 20, 21, 22, 23, 24, 25, 26, 27, 28, 29, 30, 31, 32, 33, 34, 35] (by decide) rfl
    refine lv_istore (lv' := [(6, .int r), (5, .int 0), (0, .ref b), (1, .ref (ad 0)), (2, .ref (am 0)), (3, .ref o), (4, .int i)]) hx hb dL_law_1056 hl (by decide) rfl (fun ls hl => ?_)
    refine lv_aload_n hx hb dL_law_1058 rfl (lv_at hl 4 rfl) ?_
    refine cc_iVF (As := []) (rest := []) (wr := wL cI cZ cJ ad o (vp_updL f (0 : Int32).toNatClampNeg r.toInt64) u') ⟨hx, hb, hml, hown, hts⟩ (k_X10_thrown l D cI cZ am v' rfl) (cwV 0 hts (gwV mw_968 mw_969 mw_970 mw_59 mw_971) rfl rfl rfl (by decide +kernel) ⟨(Nat.le_of_ble_eq_true rfl), (Nat.le_of_ble_eq_true rfl)⟩) (hK.sub [0, 1] rfl) hP hD hS hA hZ [0, 1, 2, 3, 4, 5, 6, 7, 8, 9, 10, 11, 12, 13, 14, 15, 16, 17, 18, 19, 20, 21, 22, 23] [24, 25, 26, 27, 28, 29, 30, 31, 32, 33, 34, 35, 36, 37, 38, 39, 40, 41, 42, 43, 44, 45, 46, 47, 48, 49, 50, 51, 52, 53, 54, 55, 56, 57, 58, 59] rfl rfl (by decide) rfl (by decide) (by decide) (ci := 10) (q0 := 0) rfl rfl rfl hl.1 rfl (Nat.le_of_ble_eq_true rfl) dL_law_1059 ⟨by show 60 + (j + 1) ≤ 1087; omega, by show 5141 + 6 * (j + 1) ≤ 13351; omega⟩ (fun H locs hP hD hS => ?_)
    replace hP : va_P D vwCl (wM cI cZ am v' ++ wL cI cZ cJ ad o (vp_updL f (0 : Int32).toNatClampNeg r.toInt64) u') H := hP.sub [36, 37, 38, 39, 40, 41, 42, 43, 44, 45, 46, 47, 48, 49, 50, 51, 52, 53, 54, 55, 56, 57, 58, 59, 0, 1, 2, 3, 4, 5, 6, 7, 8, 9, 10, 11, 12, 13, 14, 15, 16, 17, 18, 19, 20, 21, 22, 23, 24, 25, 26, 27, 28, 29, 30, 31, 32, 33, 34, 35] rfl
    replace hD : va_D (fun q : Nat => s.heap.size ≤ q) (wM cI cZ am v' ++ wL cI cZ cJ ad o (vp_updL f (0 : Int32).toNatClampNeg r.toInt64) u') := hD.sub [36, 37, 38, 39, 40, 41, 42, 43, 44, 45, 46, 47, 48, 49, 50, 51, 52, 53, 54, 55, 56, 57, 58, 59, 0, 1, 2, 3, 4, 5, 6, 7, 8, 9, 10, 11, 12, 13, 14, 15, 16, 17, 18, 19, 20, 21, 22, 23, 24, 25, 26, 27, 28, 29, 30, 31, 32, 33, 34, 35] (by decide) rfl
    refine lv_iload hx hb dL_law_1062 (lv_at hl 1 rfl) ?_
    refine lv_icmp_eq (tgt := 1069) hx hb dL_law_1064 (by decide) (fun _ => ?_) (fun c1 => absurd ht c1)
    refine lv_iload hx hb dL_law_1069 (lv_at hl 1 rfl) ?_
    refine lv_if_ne (tgt := 1086) hx hb dL_law_1071 (by decide) (fun c1 => absurd rfl c1) (fun _ => ?_)
    refine lv_aload_n hx hb dL_law_1074 rfl (lv_at hl 5 rfl) ?_
    refine lv_iconst (v := 0) hx hb dL_law_1075 (by decide) ?_
    refine va_lald (D := D) hx hb hK hP 24 2 rfl rfl (by unfold vp_in; decide) dL_law_1076 ?_
    refine lv_iload hx hb dL_law_1077 (lv_at hl 0 rfl) ?_
    refine lv_i2l (v := r.toInt64) hx hb dL_law_1079 rfl ?_
    refine W.lcmp hx hb dL_law_1080 ?_
    refine lv_if_eq (tgt := 1086) hx hb dL_law_1081 (by decide) (fun _ => ?_) (fun c2 => absurd (by simp [lg_cmp, vp_updL]) c2)
    refine lv_goto (tgt := 1764) hx hb dL_law_1086 (by decide) ?_
    exact kk _ _ _ _ _ ls hrel hP hD hS (lv_sub hl [2, 3, 4, 5, 6] rfl)
  · rcases List.mem_cons.mp hq with rfl | hq
    · refine lv_aload_n hx hb dL_law_1021 rfl (lv_at hl 1 rfl) ?_
      refine lv_aload_n hx hb dL_law_1022 rfl (lv_at hl 0 rfl) ?_
      refine lv_iload hx hb dL_law_1023 (lv_at hl 4 rfl) ?_
      refine lv_iconst (v := 1) hx hb dL_law_1025 (by decide) ?_
      refine lv_iadd hx hb dL_law_1026 ?_
      refine va_sld hx hb hX hbl hbA hS hi1 dL_law_1027 ?_
      refine lv_topn hp1 ?_
      refine lv_aload_n hx hb dL_law_1028 rfl (lv_at hl 0 rfl) ?_
      refine lv_iload hx hb dL_law_1029 (lv_at hl 4 rfl) ?_
      refine lv_iconst (v := 2) hx hb dL_law_1031 (by decide) ?_
      refine lv_iadd hx hb dL_law_1032 ?_
      refine va_sld hx hb hX hbl hbA hS hi2 dL_law_1033 ?_
      refine lv_topn hp2 ?_
      refine lv_aload_n hx hb dL_law_1034 rfl (lv_at hl 3 rfl) ?_
      refine cc_iSHF (As := [.ref (ad 0), .int p1, .int p2, .ref o]) (rest := []) (wr := wM cI cZ am v) ⟨hx, hb, hml, hown, hts⟩ (kx1_L_report l hl0 D cI cZ cJ ad o f u p1 p2 hc) (vx_cwSW 4 hts (gwSH mw_710 mw_711 mw_47 mw_712) rfl rfl rfl (by decide +kernel) ⟨(Nat.le_of_ble_eq_true rfl), (Nat.le_of_ble_eq_true rfl)⟩) hK hP hD hS hA hZ [24, 25, 26, 27, 28, 29, 30, 31, 32, 33, 34, 35, 36, 37, 38, 39, 40, 41, 42, 43, 44, 45, 46, 47, 48, 49, 50, 51, 52, 53, 54, 55, 56, 57, 58, 59] [0, 1, 2, 3, 4, 5, 6, 7, 8, 9, 10, 11, 12, 13, 14, 15, 16, 17, 18, 19, 20, 21, 22, 23] rfl rfl (by decide) rfl (by decide) (by decide) rfl hl.1 rfl (Nat.le_of_ble_eq_true rfl) dL_law_1035 ⟨by show 60 + j + 1 ≤ 1087; omega, by show 5141 + 6 * j + 6 ≤ 13351; omega⟩ (fun H locs hP hD hS => ?_)
      replace hP : va_P D vwCl (wM cI cZ am v ++ wL cI cZ cJ ad o f u') H := hP
      replace hD : va_D (fun q : Nat => s.heap.size ≤ q) (wM cI cZ am v ++ wL cI cZ cJ ad o f u') := hD
      refine W.widen (k := 60 + (j + 1)) (n := 5141 + 6 * (j + 1)) (by omega) (by omega) ?_
      refine lv_istore (lv' := [(5, .int 1), (0, .ref b), (1, .ref (ad 0)), (2, .ref (am 0)), (3, .ref o), (4, .int i)]) hx hb dL_law_1038 hl (by decide) rfl (fun ls hl => ?_)
      refine lv_aload_n hx hb dL_law_1040 rfl (lv_at hl 3 rfl) ?_
      refine lv_aload_n hx hb dL_law_1041 rfl (lv_at hl 1 rfl) ?_
      refine lv_iload hx hb dL_law_1042 (lv_at hl 5 rfl) ?_
      refine lv_iconst (v := 1) hx hb dL_law_1044 (by decide) ?_
      refine lv_iadd hx hb dL_law_1045 ?_
      refine va_sld hx hb hX hbl hbA hS hi1 dL_law_1046 ?_
      refine lv_topn hp1 ?_
      refine lv_aload_n hx hb dL_law_1047 rfl (lv_at hl 1 rfl) ?_
      refine lv_iload hx hb dL_law_1048 (lv_at hl 5 rfl) ?_
      refine lv_iconst (v := 2) hx hb dL_law_1050 (by decide) ?_
      refine lv_iadd hx hb dL_law_1051 ?_
      refine va_sld hx hb hX hbl hbA hS hi2 dL_law_1052 ?_
      refine lv_topn hp2 ?_
      refine cc_iVF (As := [.int p1, .int p2]) (rest := []) (wr := wL cI cZ cJ ad o f u') ⟨hx, hb, hml, hown, hts⟩ (k_X10_report l D cI cZ am v p1 p2 hm) (cwV 2 hts (gwV mw_1098 mw_1099 mw_1100 mw_59 mw_1101) rfl rfl rfl (by decide +kernel) ⟨(Nat.le_of_ble_eq_true rfl), (Nat.le_of_ble_eq_true rfl)⟩) (hK.sub [0, 1] rfl) hP hD hS hA hZ [0, 1, 2, 3, 4, 5, 6, 7, 8, 9, 10, 11, 12, 13, 14, 15, 16, 17, 18, 19, 20, 21, 22, 23] [24, 25, 26, 27, 28, 29, 30, 31, 32, 33, 34, 35, 36, 37, 38, 39, 40, 41, 42, 43, 44, 45, 46, 47, 48, 49, 50, 51, 52, 53, 54, 55, 56, 57, 58, 59] rfl rfl (by decide) rfl (by decide) (by decide) (ci := 10) (q0 := 0) rfl rfl rfl hl.1 rfl (Nat.le_of_ble_eq_true rfl) dL_law_1053 ⟨by show 60 + (j + 1) ≤ 1087; omega, by show 5141 + 6 * (j + 1) ≤ 13351; omega⟩ (fun H locs hP hD hS => ?_)
      replace hP : va_P D vwCl (wM cI cZ am v' ++ wL cI cZ cJ ad o f u') H := hP.sub [36, 37, 38, 39, 40, 41, 42, 43, 44, 45, 46, 47, 48, 49, 50, 51, 52, 53, 54, 55, 56, 57, 58, 59, 0, 1, 2, 3, 4, 5, 6, 7, 8, 9, 10, 11, 12, 13, 14, 15, 16, 17, 18, 19, 20, 21, 22, 23, 24, 25, 26, 27, 28, 29, 30, 31, 32, 33, 34, 35] rfl
      replace hD : va_D (fun q : Nat => s.heap.size ≤ q) (wM cI cZ am v' ++ wL cI cZ cJ ad o f u') := hD.sub [36, 37, 38, 39, 40, 41, 42, 43, 44, 45, 46, 47, 48, 49, 50, 51, 52, 53, 54, 55, 56, 57, 58, 59, 0, 1, 2, 3, 4, 5, 6, 7, 8, 9, 10, 11, 12, 13, 14, 15, 16, 17, 18, 19, 20, 21, 22, 23, 24, 25, 26, 27, 28, 29, 30, 31, 32, 33, 34, 35] (by decide) rfl
      refine lv_istore (lv' := [(6, .int b9), (5, .int 1), (0, .ref b), (1, .ref (ad 0)), (2, .ref (am 0)), (3, .ref o), (4, .int i)]) hx hb dL_law_1056 hl (by decide) rfl (fun ls hl => ?_)
      refine lv_aload_n hx hb dL_law_1058 rfl (lv_at hl 4 rfl) ?_
      refine cc_iVF (As := []) (rest := []) (wr := wL cI cZ cJ ad o f u') ⟨hx, hb, hml, hown, hts⟩ (k_X10_thrown l D cI cZ am v' rfl) (cwV 0 hts (gwV mw_968 mw_969 mw_970 mw_59 mw_971) rfl rfl rfl (by decide +kernel) ⟨(Nat.le_of_ble_eq_true rfl), (Nat.le_of_ble_eq_true rfl)⟩) (hK.sub [0, 1] rfl) hP hD hS hA hZ [0, 1, 2, 3, 4, 5, 6, 7, 8, 9, 10, 11, 12, 13, 14, 15, 16, 17, 18, 19, 20, 21, 22, 23] [24, 25, 26, 27, 28, 29, 30, 31, 32, 33, 34, 35, 36, 37, 38, 39, 40, 41, 42, 43, 44, 45, 46, 47, 48, 49, 50, 51, 52, 53, 54, 55, 56, 57, 58, 59] rfl rfl (by decide) rfl (by decide) (by decide) (ci := 10) (q0 := 0) rfl rfl rfl hl.1 rfl (Nat.le_of_ble_eq_true rfl) dL_law_1059 ⟨by show 60 + (j + 1) ≤ 1087; omega, by show 5141 + 6 * (j + 1) ≤ 13351; omega⟩ (fun H locs hP hD hS => ?_)
      replace hP : va_P D vwCl (wM cI cZ am v' ++ wL cI cZ cJ ad o f u') H := hP.sub [36, 37, 38, 39, 40, 41, 42, 43, 44, 45, 46, 47, 48, 49, 50, 51, 52, 53, 54, 55, 56, 57, 58, 59, 0, 1, 2, 3, 4, 5, 6, 7, 8, 9, 10, 11, 12, 13, 14, 15, 16, 17, 18, 19, 20, 21, 22, 23, 24, 25, 26, 27, 28, 29, 30, 31, 32, 33, 34, 35] rfl
      replace hD : va_D (fun q : Nat => s.heap.size ≤ q) (wM cI cZ am v' ++ wL cI cZ cJ ad o f u') := hD.sub [36, 37, 38, 39, 40, 41, 42, 43, 44, 45, 46, 47, 48, 49, 50, 51, 52, 53, 54, 55, 56, 57, 58, 59, 0, 1, 2, 3, 4, 5, 6, 7, 8, 9, 10, 11, 12, 13, 14, 15, 16, 17, 18, 19, 20, 21, 22, 23, 24, 25, 26, 27, 28, 29, 30, 31, 32, 33, 34, 35] (by decide) rfl
      refine lv_iload hx hb dL_law_1062 (lv_at hl 1 rfl) ?_
      refine lv_icmp_eq (tgt := 1069) hx hb dL_law_1064 (by decide) (fun _ => ?_) (fun c1 => absurd ht c1)
      refine lv_iload hx hb dL_law_1069 (lv_at hl 1 rfl) ?_
      refine lv_if_ne (tgt := 1086) hx hb dL_law_1071 (by decide) (fun _ => ?_) (fun c1 => absurd c1 (by decide))
      refine lv_goto (tgt := 1764) hx hb dL_law_1086 (by decide) ?_
      exact kk _ _ _ _ _ ls hrel hP hD hS (lv_sub hl [2, 3, 4, 5, 6] rfl)
    · rcases List.mem_cons.mp hq with rfl | hq
      · refine lv_aload_n hx hb dL_law_1021 rfl (lv_at hl 1 rfl) ?_
        refine lv_aload_n hx hb dL_law_1022 rfl (lv_at hl 0 rfl) ?_
        refine lv_iload hx hb dL_law_1023 (lv_at hl 4 rfl) ?_
        refine lv_iconst (v := 1) hx hb dL_law_1025 (by decide) ?_
        refine lv_iadd hx hb dL_law_1026 ?_
        refine va_sld hx hb hX hbl hbA hS hi1 dL_law_1027 ?_
        refine lv_topn hp1 ?_
        refine lv_aload_n hx hb dL_law_1028 rfl (lv_at hl 0 rfl) ?_
        refine lv_iload hx hb dL_law_1029 (lv_at hl 4 rfl) ?_
        refine lv_iconst (v := 2) hx hb dL_law_1031 (by decide) ?_
        refine lv_iadd hx hb dL_law_1032 ?_
        refine va_sld hx hb hX hbl hbA hS hi2 dL_law_1033 ?_
        refine lv_topn hp2 ?_
        refine lv_aload_n hx hb dL_law_1034 rfl (lv_at hl 3 rfl) ?_
        refine cc_iSHF (As := [.ref (ad 0), .int p1, .int p2, .ref o]) (rest := []) (wr := wM cI cZ am v) ⟨hx, hb, hml, hown, hts⟩ (kx2_L_report l hl0 D cI cZ cJ ad o f u p1 p2 hc) (vx_cwSW 4 hts (gwSH mw_710 mw_711 mw_47 mw_712) rfl rfl rfl (by decide +kernel) ⟨(Nat.le_of_ble_eq_true rfl), (Nat.le_of_ble_eq_true rfl)⟩) hK hP hD hS hA hZ [24, 25, 26, 27, 28, 29, 30, 31, 32, 33, 34, 35, 36, 37, 38, 39, 40, 41, 42, 43, 44, 45, 46, 47, 48, 49, 50, 51, 52, 53, 54, 55, 56, 57, 58, 59] [0, 1, 2, 3, 4, 5, 6, 7, 8, 9, 10, 11, 12, 13, 14, 15, 16, 17, 18, 19, 20, 21, 22, 23] rfl rfl (by decide) rfl (by decide) (by decide) rfl hl.1 rfl (Nat.le_of_ble_eq_true rfl) dL_law_1035 ⟨by show 60 + j + 1 ≤ 1087; omega, by show 5141 + 6 * j + 6 ≤ 13351; omega⟩ (fun H locs hP hD hS => ?_)
        replace hP : va_P D vwCl (wM cI cZ am v ++ wL cI cZ cJ ad o f u') H := hP
        replace hD : va_D (fun q : Nat => s.heap.size ≤ q) (wM cI cZ am v ++ wL cI cZ cJ ad o f u') := hD
        refine W.widen (k := 60 + (j + 1)) (n := 5141 + 6 * (j + 1)) (by omega) (by omega) ?_
        refine lv_istore (lv' := [(5, .int 2), (0, .ref b), (1, .ref (ad 0)), (2, .ref (am 0)), (3, .ref o), (4, .int i)]) hx hb dL_law_1038 hl (by decide) rfl (fun ls hl => ?_)
        refine lv_aload_n hx hb dL_law_1040 rfl (lv_at hl 3 rfl) ?_
        refine lv_aload_n hx hb dL_law_1041 rfl (lv_at hl 1 rfl) ?_
        refine lv_iload hx hb dL_law_1042 (lv_at hl 5 rfl) ?_
        refine lv_iconst (v := 1) hx hb dL_law_1044 (by decide) ?_
        refine lv_iadd hx hb dL_law_1045 ?_
        refine va_sld hx hb hX hbl hbA hS hi1 dL_law_1046 ?_
        refine lv_topn hp1 ?_
        refine lv_aload_n hx hb dL_law_1047 rfl (lv_at hl 1 rfl) ?_
        refine lv_iload hx hb dL_law_1048 (lv_at hl 5 rfl) ?_
        refine lv_iconst (v := 2) hx hb dL_law_1050 (by decide) ?_
        refine lv_iadd hx hb dL_law_1051 ?_
        refine va_sld hx hb hX hbl hbA hS hi2 dL_law_1052 ?_
        refine lv_topn hp2 ?_
        refine cc_iVF (As := [.int p1, .int p2]) (rest := []) (wr := wL cI cZ cJ ad o f u') ⟨hx, hb, hml, hown, hts⟩ (k_X10_report l D cI cZ am v p1 p2 hm) (cwV 2 hts (gwV mw_1098 mw_1099 mw_1100 mw_59 mw_1101) rfl rfl rfl (by decide +kernel) ⟨(Nat.le_of_ble_eq_true rfl), (Nat.le_of_ble_eq_true rfl)⟩) (hK.sub [0, 1] rfl) hP hD hS hA hZ [0, 1, 2, 3, 4, 5, 6, 7, 8, 9, 10, 11, 12, 13, 14, 15, 16, 17, 18, 19, 20, 21, 22, 23] [24, 25, 26, 27, 28, 29, 30, 31, 32, 33, 34, 35, 36, 37, 38, 39, 40, 41, 42, 43, 44, 45, 46, 47, 48, 49, 50, 51, 52, 53, 54, 55, 56, 57, 58, 59] rfl rfl (by decide) rfl (by decide) (by decide) (ci := 10) (q0 := 0) rfl rfl rfl hl.1 rfl (Nat.le_of_ble_eq_true rfl) dL_law_1053 ⟨by show 60 + (j + 1) ≤ 1087; omega, by show 5141 + 6 * (j + 1) ≤ 13351; omega⟩ (fun H locs hP hD hS => ?_)
        replace hP : va_P D vwCl (wM cI cZ am v' ++ wL cI cZ cJ ad o f u') H := hP.sub [36, 37, 38, 39, 40, 41, 42, 43, 44, 45, 46, 47, 48, 49, 50, 51, 52, 53, 54, 55, 56, 57, 58, 59, 0, 1, 2, 3, 4, 5, 6, 7, 8, 9, 10, 11, 12, 13, 14, 15, 16, 17, 18, 19, 20, 21, 22, 23, 24, 25, 26, 27, 28, 29, 30, 31, 32, 33, 34, 35] rfl
        replace hD : va_D (fun q : Nat => s.heap.size ≤ q) (wM cI cZ am v' ++ wL cI cZ cJ ad o f u') := hD.sub [36, 37, 38, 39, 40, 41, 42, 43, 44, 45, 46, 47, 48, 49, 50, 51, 52, 53, 54, 55, 56, 57, 58, 59, 0, 1, 2, 3, 4, 5, 6, 7, 8, 9, 10, 11, 12, 13, 14, 15, 16, 17, 18, 19, 20, 21, 22, 23, 24, 25, 26, 27, 28, 29, 30, 31, 32, 33, 34, 35] (by decide) rfl
        refine lv_istore (lv' := [(6, .int b9), (5, .int 2), (0, .ref b), (1, .ref (ad 0)), (2, .ref (am 0)), (3, .ref o), (4, .int i)]) hx hb dL_law_1056 hl (by decide) rfl (fun ls hl => ?_)
        refine lv_aload_n hx hb dL_law_1058 rfl (lv_at hl 4 rfl) ?_
        refine cc_iVF (As := []) (rest := []) (wr := wL cI cZ cJ ad o f u') ⟨hx, hb, hml, hown, hts⟩ (k_X10_thrown l D cI cZ am v' rfl) (cwV 0 hts (gwV mw_968 mw_969 mw_970 mw_59 mw_971) rfl rfl rfl (by decide +kernel) ⟨(Nat.le_of_ble_eq_true rfl), (Nat.le_of_ble_eq_true rfl)⟩) (hK.sub [0, 1] rfl) hP hD hS hA hZ [0, 1, 2, 3, 4, 5, 6, 7, 8, 9, 10, 11, 12, 13, 14, 15, 16, 17, 18, 19, 20, 21, 22, 23] [24, 25, 26, 27, 28, 29, 30, 31, 32, 33, 34, 35, 36, 37, 38, 39, 40, 41, 42, 43, 44, 45, 46, 47, 48, 49, 50, 51, 52, 53, 54, 55, 56, 57, 58, 59] rfl rfl (by decide) rfl (by decide) (by decide) (ci := 10) (q0 := 0) rfl rfl rfl hl.1 rfl (Nat.le_of_ble_eq_true rfl) dL_law_1059 ⟨by show 60 + (j + 1) ≤ 1087; omega, by show 5141 + 6 * (j + 1) ≤ 13351; omega⟩ (fun H locs hP hD hS => ?_)
        replace hP : va_P D vwCl (wM cI cZ am v' ++ wL cI cZ cJ ad o f u') H := hP.sub [36, 37, 38, 39, 40, 41, 42, 43, 44, 45, 46, 47, 48, 49, 50, 51, 52, 53, 54, 55, 56, 57, 58, 59, 0, 1, 2, 3, 4, 5, 6, 7, 8, 9, 10, 11, 12, 13, 14, 15, 16, 17, 18, 19, 20, 21, 22, 23, 24, 25, 26, 27, 28, 29, 30, 31, 32, 33, 34, 35] rfl
        replace hD : va_D (fun q : Nat => s.heap.size ≤ q) (wM cI cZ am v' ++ wL cI cZ cJ ad o f u') := hD.sub [36, 37, 38, 39, 40, 41, 42, 43, 44, 45, 46, 47, 48, 49, 50, 51, 52, 53, 54, 55, 56, 57, 58, 59, 0, 1, 2, 3, 4, 5, 6, 7, 8, 9, 10, 11, 12, 13, 14, 15, 16, 17, 18, 19, 20, 21, 22, 23, 24, 25, 26, 27, 28, 29, 30, 31, 32, 33, 34, 35] (by decide) rfl
        refine lv_iload hx hb dL_law_1062 (lv_at hl 1 rfl) ?_
        refine lv_icmp_eq (tgt := 1069) hx hb dL_law_1064 (by decide) (fun _ => ?_) (fun c1 => absurd ht c1)
        refine lv_iload hx hb dL_law_1069 (lv_at hl 1 rfl) ?_
        refine lv_if_ne (tgt := 1086) hx hb dL_law_1071 (by decide) (fun _ => ?_) (fun c1 => absurd c1 (by decide))
        refine lv_goto (tgt := 1764) hx hb dL_law_1086 (by decide) ?_
        exact kk _ _ _ _ _ ls hrel hP hD hS (lv_sub hl [2, 3, 4, 5, 6] rfl)
      · exact absurd hq List.not_mem_nil

set_option maxHeartbeats 4000000 in
set_option maxRecDepth 100000 in
theorem lc_confirm {p : Program} {l : Launch} {e : Env} {s : State} {m : MethodId} {below : List Frame} {meth : Method} {c : Code} {b L : Nat} {xs : Nat → Int32} (hl0 : l.stackTraces = false) (C0 : lw_At p s m meth c b L xs) (hZ : cst (fun q : Nat => s.heap.size ≤ q) s) {D : va_G} {cI cZ cJ : ClassId} (hK : va_K D vwCl [(cI, .int), (cZ, .boolean), (cJ, .long)] s) {Rel : GS → MS → Prop} {am ad : Nat → Nat} {o : Nat} {f : Nat → Int64} {u : GS} {v : MS} {i : Int32} {j : Nat} (hj : j ≤ 511) (hi : lin i L) {p1 : Int32} (hp1 : xs (i + 1).toNatClampNeg = p1) (hsim : SI Rel (g_X9_confirm u p1) (g_X10_confirm v p1) [("java/lang/IndexOutOfBoundsException", 1), ("java/lang/IllegalStateException", 2)]) {H : Heap} {locs : List Loc} {ls : Array Slot} (hP : va_P D vwCl (wM cI cZ am v ++ wL cI cZ cJ ad o f u) H) (hD : va_D (fun q : Nat => s.heap.size ≤ q) (wM cI cZ am v ++ wL cI cZ cJ ad o f u)) (hS : va_S (fun q : Nat => s.heap.size ≤ q) s.heap H locs) (hl : lv_has ls 7 [(0, .ref b), (1, .ref (ad 0)), (2, .ref (am 0)), (3, .ref o), (4, .int i)]) (kk : ∀ (u' : GS) (v' : MS) (f' : Nat → Int64) (H : Heap) (locs : List Loc) (ls : Array Slot), Rel u' v' → va_P D vwCl (wM cI cZ am v' ++ wL cI cZ cJ ad o f' u') H → va_D (fun q : Nat => s.heap.size ≤ q) (wM cI cZ am v' ++ wL cI cZ cJ ad o f' u') → va_S (fun q : Nat => s.heap.size ≤ q) s.heap H locs → lv_has ls 7 [(0, .ref b), (1, .ref (ad 0)), (2, .ref (am 0)), (3, .ref o), (4, .int i)] → W p l e room_1 s m #[Value.ref b] below meth c H locs (60 + (j + 1)) (5141 + 6 * (j + 1)) (lw_Z below #[Value.ref b] s) (F0 m 1764 ls [])) : W p l e room_1 s m #[Value.ref b] below meth c H locs (60 + j) (5141 + 6 * j) (lw_Z below #[Value.ref b] s) (F0 m 1089 ls []) := by
  obtain ⟨hx, hb, hr, hml, hown, hts0, hX, hbl, hlocks, hgv⟩ := id C0
  have hts : ∀ w ∈ Wall, w.before #[Value.ref b] s = true := fun w h => hts0 w (wall_tbl w h)
  have hA : ∀ q : Nat, s.heap.size ≤ q → (fun q : Nat => s.heap.size ≤ q) q := fun _ h => h
  have hbA : ¬ (fun q : Nat => s.heap.size ≤ q) b := Nat.not_le.mpr hbl
  obtain ⟨-, hi1, hi2, hi3, hi4, hi5⟩ := hi
  rcases hsim with ⟨r, u', v', hc, hm, ht, hrel⟩ | ⟨q, u', b9, v', hq, hc, hm, ht, hrel⟩
  · refine lv_aload_n hx hb dL_law_1089 rfl (lv_at hl 1 rfl) ?_
    refine lv_aload_n hx hb dL_law_1090 rfl (lv_at hl 0 rfl) ?_
    refine lv_iload hx hb dL_law_1091 (lv_at hl 4 rfl) ?_
    refine lv_iconst (v := 1) hx hb dL_law_1093 (by decide) ?_
    refine lv_iadd hx hb dL_law_1094 ?_
    refine va_sld hx hb hX hbl hbA hS hi1 dL_law_1095 ?_
    refine lv_topn hp1 ?_
    refine lv_aload_n hx hb dL_law_1096 rfl (lv_at hl 3 rfl) ?_
    refine cc_iSHF (As := [.ref (ad 0), .int p1, .ref o]) (rest := []) (wr := wM cI cZ am v) ⟨hx, hb, hml, hown, hts⟩ (k_L_confirm l D cI cZ cJ ad o f u p1 hc) (vx_cwSW 3 hts (gwSH mw_725 mw_726 mw_47 mw_727) rfl rfl rfl (by decide +kernel) ⟨(Nat.le_of_ble_eq_true rfl), (Nat.le_of_ble_eq_true rfl)⟩) hK hP hD hS hA hZ [24, 25, 26, 27, 28, 29, 30, 31, 32, 33, 34, 35, 36, 37, 38, 39, 40, 41, 42, 43, 44, 45, 46, 47, 48, 49, 50, 51, 52, 53, 54, 55, 56, 57, 58, 59] [0, 1, 2, 3, 4, 5, 6, 7, 8, 9, 10, 11, 12, 13, 14, 15, 16, 17, 18, 19, 20, 21, 22, 23] rfl rfl (by decide) rfl (by decide) (by decide) rfl hl.1 rfl (Nat.le_of_ble_eq_true rfl) dL_law_1097 ⟨by show 60 + j ≤ 1087; omega, by show 5141 + 6 * j ≤ 13351; omega⟩ (fun H locs hP hD hS => ?_)
    replace hP : va_P D vwCl (wM cI cZ am v ++ wL cI cZ cJ ad o (vp_updL f (0 : Int32).toNatClampNeg r.toInt64) u') H := hP
    replace hD : va_D (fun q : Nat => s.heap.size ≤ q) (wM cI cZ am v ++ wL cI cZ cJ ad o (vp_updL f (0 : Int32).toNatClampNeg r.toInt64) u') := hD
    refine W.widen (k := 60 + (j + 1)) (n := 5141 + 6 * (j + 1)) (by omega) (by omega) ?_
    refine lv_istore (lv' := [(5, .int 0), (0, .ref b), (1, .ref (ad 0)), (2, .ref (am 0)), (3, .ref o), (4, .int i)]) hx hb dL_law_1100 hl (by decide) rfl (fun ls hl => ?_)
    refine lv_aload_n hx hb dL_law_1102 rfl (lv_at hl 3 rfl) ?_
    refine lv_aload_n hx hb dL_law_1103 rfl (lv_at hl 1 rfl) ?_
    refine lv_iload hx hb dL_law_1104 (lv_at hl 5 rfl) ?_
    refine lv_iconst (v := 1) hx hb dL_law_1106 (by decide) ?_
    refine lv_iadd hx hb dL_law_1107 ?_
    refine va_sld hx hb hX hbl hbA hS hi1 dL_law_1108 ?_
    refine lv_topn hp1 ?_
    refine cc_iVF (As := [.int p1]) (rest := []) (wr := wL cI cZ cJ ad o (vp_updL f (0 : Int32).toNatClampNeg r.toInt64) u') ⟨hx, hb, hml, hown, hts⟩ (k_X10_confirm l D cI cZ am v p1 hm) (cwV 1 hts (gwV mw_1106 mw_1107 mw_1108 mw_59 mw_1109) rfl rfl rfl (by decide +kernel) ⟨(Nat.le_of_ble_eq_true rfl), (Nat.le_of_ble_eq_true rfl)⟩) (hK.sub [0, 1] rfl) hP hD hS hA hZ [0, 1, 2, 3, 4, 5, 6, 7, 8, 9, 10, 11, 12, 13, 14, 15, 16, 17, 18, 19, 20, 21, 22, 23] [24, 25, 26, 27, 28, 29, 30, 31, 32, 33, 34, 35, 36, 37, 38, 39, 40, 41, 42, 43, 44, 45, 46, 47, 48, 49, 50, 51, 52, 53, 54, 55, 56, 57, 58, 59] rfl rfl (by decide) rfl (by decide) (by decide) (ci := 10) (q0 := 0) rfl rfl rfl hl.1 rfl (Nat.le_of_ble_eq_true rfl) dL_law_1109 ⟨by show 60 + (j + 1) ≤ 1087; omega, by show 5141 + 6 * (j + 1) ≤ 13351; omega⟩ (fun H locs hP hD hS => ?_)
    replace hP : va_P D vwCl (wM cI cZ am v' ++ wL cI cZ cJ ad o (vp_updL f (0 : Int32).toNatClampNeg r.toInt64) u') H := hP.sub [36, 37, 38, 39, 40, 41, 42, 43, 44, 45, 46, 47, 48, 49, 50, 51, 52, 53, 54, 55, 56, 57, 58, 59, 0, 1, 2, 3, 4, 5, 6, 7, 8, 9, 10, 11, 12, 13, 14, 15, 16, 17, 18, 19, 20, 21, 22, 23, 24, 25, 26, 27, 28, 29, 30, 31, 32, 33, 34, 35] rfl
    replace hD : va_D (fun q : Nat => s.heap.size ≤ q) (wM cI cZ am v' ++ wL cI cZ cJ ad o (vp_updL f (0 : Int32).toNatClampNeg r.toInt64) u') := hD.sub [36, 37, 38, 39, 40, 41, 42, 43, 44, 45, 46, 47, 48, 49, 50, 51, 52, 53, 54, 55, 56, 57, 58, 59, 0, 1, 2, 3, 4, 5, 6, 7, 8, 9, 10, 11, 12, 13, 14, 15, 16, 17, 18, 19, 20, 21, 22, 23, 24, 25, 26, 27, 28, 29, 30, 31, 32, 33, 34, 35] (by decide) rfl
    refine lv_istore (lv' := [(6, .int r), (5, .int 0), (0, .ref b), (1, .ref (ad 0)), (2, .ref (am 0)), (3, .ref o), (4, .int i)]) hx hb dL_law_1112 hl (by decide) rfl (fun ls hl => ?_)
    refine lv_aload_n hx hb dL_law_1114 rfl (lv_at hl 4 rfl) ?_
    refine cc_iVF (As := []) (rest := []) (wr := wL cI cZ cJ ad o (vp_updL f (0 : Int32).toNatClampNeg r.toInt64) u') ⟨hx, hb, hml, hown, hts⟩ (k_X10_thrown l D cI cZ am v' rfl) (cwV 0 hts (gwV mw_968 mw_969 mw_970 mw_59 mw_971) rfl rfl rfl (by decide +kernel) ⟨(Nat.le_of_ble_eq_true rfl), (Nat.le_of_ble_eq_true rfl)⟩) (hK.sub [0, 1] rfl) hP hD hS hA hZ [0, 1, 2, 3, 4, 5, 6, 7, 8, 9, 10, 11, 12, 13, 14, 15, 16, 17, 18, 19, 20, 21, 22, 23] [24, 25, 26, 27, 28, 29, 30, 31, 32, 33, 34, 35, 36, 37, 38, 39, 40, 41, 42, 43, 44, 45, 46, 47, 48, 49, 50, 51, 52, 53, 54, 55, 56, 57, 58, 59] rfl rfl (by decide) rfl (by decide) (by decide) (ci := 10) (q0 := 0) rfl rfl rfl hl.1 rfl (Nat.le_of_ble_eq_true rfl) dL_law_1115 ⟨by show 60 + (j + 1) ≤ 1087; omega, by show 5141 + 6 * (j + 1) ≤ 13351; omega⟩ (fun H locs hP hD hS => ?_)
    replace hP : va_P D vwCl (wM cI cZ am v' ++ wL cI cZ cJ ad o (vp_updL f (0 : Int32).toNatClampNeg r.toInt64) u') H := hP.sub [36, 37, 38, 39, 40, 41, 42, 43, 44, 45, 46, 47, 48, 49, 50, 51, 52, 53, 54, 55, 56, 57, 58, 59, 0, 1, 2, 3, 4, 5, 6, 7, 8, 9, 10, 11, 12, 13, 14, 15, 16, 17, 18, 19, 20, 21, 22, 23, 24, 25, 26, 27, 28, 29, 30, 31, 32, 33, 34, 35] rfl
    replace hD : va_D (fun q : Nat => s.heap.size ≤ q) (wM cI cZ am v' ++ wL cI cZ cJ ad o (vp_updL f (0 : Int32).toNatClampNeg r.toInt64) u') := hD.sub [36, 37, 38, 39, 40, 41, 42, 43, 44, 45, 46, 47, 48, 49, 50, 51, 52, 53, 54, 55, 56, 57, 58, 59, 0, 1, 2, 3, 4, 5, 6, 7, 8, 9, 10, 11, 12, 13, 14, 15, 16, 17, 18, 19, 20, 21, 22, 23, 24, 25, 26, 27, 28, 29, 30, 31, 32, 33, 34, 35] (by decide) rfl
    refine lv_iload hx hb dL_law_1118 (lv_at hl 1 rfl) ?_
    refine lv_icmp_eq (tgt := 1125) hx hb dL_law_1120 (by decide) (fun _ => ?_) (fun c1 => absurd ht c1)
    refine lv_iload hx hb dL_law_1125 (lv_at hl 1 rfl) ?_
    refine lv_if_ne (tgt := 1142) hx hb dL_law_1127 (by decide) (fun c1 => absurd rfl c1) (fun _ => ?_)
    refine lv_aload_n hx hb dL_law_1130 rfl (lv_at hl 5 rfl) ?_
    refine lv_iconst (v := 0) hx hb dL_law_1131 (by decide) ?_
    refine va_lald (D := D) hx hb hK hP 24 2 rfl rfl (by unfold vp_in; decide) dL_law_1132 ?_
    refine lv_iload hx hb dL_law_1133 (lv_at hl 0 rfl) ?_
    refine lv_i2l (v := r.toInt64) hx hb dL_law_1135 rfl ?_
    refine W.lcmp hx hb dL_law_1136 ?_
    refine lv_if_eq (tgt := 1142) hx hb dL_law_1137 (by decide) (fun _ => ?_) (fun c2 => absurd (by simp [lg_cmp, vp_updL]) c2)
    refine lv_goto (tgt := 1764) hx hb dL_law_1142 (by decide) ?_
    exact kk _ _ _ _ _ ls hrel hP hD hS (lv_sub hl [2, 3, 4, 5, 6] rfl)
  · rcases List.mem_cons.mp hq with rfl | hq
    · refine lv_aload_n hx hb dL_law_1089 rfl (lv_at hl 1 rfl) ?_
      refine lv_aload_n hx hb dL_law_1090 rfl (lv_at hl 0 rfl) ?_
      refine lv_iload hx hb dL_law_1091 (lv_at hl 4 rfl) ?_
      refine lv_iconst (v := 1) hx hb dL_law_1093 (by decide) ?_
      refine lv_iadd hx hb dL_law_1094 ?_
      refine va_sld hx hb hX hbl hbA hS hi1 dL_law_1095 ?_
      refine lv_topn hp1 ?_
      refine lv_aload_n hx hb dL_law_1096 rfl (lv_at hl 3 rfl) ?_
      refine cc_iSHF (As := [.ref (ad 0), .int p1, .ref o]) (rest := []) (wr := wM cI cZ am v) ⟨hx, hb, hml, hown, hts⟩ (kx1_L_confirm l hl0 D cI cZ cJ ad o f u p1 hc) (vx_cwSW 3 hts (gwSH mw_725 mw_726 mw_47 mw_727) rfl rfl rfl (by decide +kernel) ⟨(Nat.le_of_ble_eq_true rfl), (Nat.le_of_ble_eq_true rfl)⟩) hK hP hD hS hA hZ [24, 25, 26, 27, 28, 29, 30, 31, 32, 33, 34, 35, 36, 37, 38, 39, 40, 41, 42, 43, 44, 45, 46, 47, 48, 49, 50, 51, 52, 53, 54, 55, 56, 57, 58, 59] [0, 1, 2, 3, 4, 5, 6, 7, 8, 9, 10, 11, 12, 13, 14, 15, 16, 17, 18, 19, 20, 21, 22, 23] rfl rfl (by decide) rfl (by decide) (by decide) rfl hl.1 rfl (Nat.le_of_ble_eq_true rfl) dL_law_1097 ⟨by show 60 + j + 1 ≤ 1087; omega, by show 5141 + 6 * j + 6 ≤ 13351; omega⟩ (fun H locs hP hD hS => ?_)
      replace hP : va_P D vwCl (wM cI cZ am v ++ wL cI cZ cJ ad o f u') H := hP
      replace hD : va_D (fun q : Nat => s.heap.size ≤ q) (wM cI cZ am v ++ wL cI cZ cJ ad o f u') := hD
      refine W.widen (k := 60 + (j + 1)) (n := 5141 + 6 * (j + 1)) (by omega) (by omega) ?_
      refine lv_istore (lv' := [(5, .int 1), (0, .ref b), (1, .ref (ad 0)), (2, .ref (am 0)), (3, .ref o), (4, .int i)]) hx hb dL_law_1100 hl (by decide) rfl (fun ls hl => ?_)
      refine lv_aload_n hx hb dL_law_1102 rfl (lv_at hl 3 rfl) ?_
      refine lv_aload_n hx hb dL_law_1103 rfl (lv_at hl 1 rfl) ?_
      refine lv_iload hx hb dL_law_1104 (lv_at hl 5 rfl) ?_
      refine lv_iconst (v := 1) hx hb dL_law_1106 (by decide) ?_
      refine lv_iadd hx hb dL_law_1107 ?_
      refine va_sld hx hb hX hbl hbA hS hi1 dL_law_1108 ?_
      refine lv_topn hp1 ?_
      refine cc_iVF (As := [.int p1]) (rest := []) (wr := wL cI cZ cJ ad o f u') ⟨hx, hb, hml, hown, hts⟩ (k_X10_confirm l D cI cZ am v p1 hm) (cwV 1 hts (gwV mw_1106 mw_1107 mw_1108 mw_59 mw_1109) rfl rfl rfl (by decide +kernel) ⟨(Nat.le_of_ble_eq_true rfl), (Nat.le_of_ble_eq_true rfl)⟩) (hK.sub [0, 1] rfl) hP hD hS hA hZ [0, 1, 2, 3, 4, 5, 6, 7, 8, 9, 10, 11, 12, 13, 14, 15, 16, 17, 18, 19, 20, 21, 22, 23] [24, 25, 26, 27, 28, 29, 30, 31, 32, 33, 34, 35, 36, 37, 38, 39, 40, 41, 42, 43, 44, 45, 46, 47, 48, 49, 50, 51, 52, 53, 54, 55, 56, 57, 58, 59] rfl rfl (by decide) rfl (by decide) (by decide) (ci := 10) (q0 := 0) rfl rfl rfl hl.1 rfl (Nat.le_of_ble_eq_true rfl) dL_law_1109 ⟨by show 60 + (j + 1) ≤ 1087; omega, by show 5141 + 6 * (j + 1) ≤ 13351; omega⟩ (fun H locs hP hD hS => ?_)
      replace hP : va_P D vwCl (wM cI cZ am v' ++ wL cI cZ cJ ad o f u') H := hP.sub [36, 37, 38, 39, 40, 41, 42, 43, 44, 45, 46, 47, 48, 49, 50, 51, 52, 53, 54, 55, 56, 57, 58, 59, 0, 1, 2, 3, 4, 5, 6, 7, 8, 9, 10, 11, 12, 13, 14, 15, 16, 17, 18, 19, 20, 21, 22, 23, 24, 25, 26, 27, 28, 29, 30, 31, 32, 33, 34, 35] rfl
      replace hD : va_D (fun q : Nat => s.heap.size ≤ q) (wM cI cZ am v' ++ wL cI cZ cJ ad o f u') := hD.sub [36, 37, 38, 39, 40, 41, 42, 43, 44, 45, 46, 47, 48, 49, 50, 51, 52, 53, 54, 55, 56, 57, 58, 59, 0, 1, 2, 3, 4, 5, 6, 7, 8, 9, 10, 11, 12, 13, 14, 15, 16, 17, 18, 19, 20, 21, 22, 23, 24, 25, 26, 27, 28, 29, 30, 31, 32, 33, 34, 35] (by decide) rfl
      refine lv_istore (lv' := [(6, .int b9), (5, .int 1), (0, .ref b), (1, .ref (ad 0)), (2, .ref (am 0)), (3, .ref o), (4, .int i)]) hx hb dL_law_1112 hl (by decide) rfl (fun ls hl => ?_)
      refine lv_aload_n hx hb dL_law_1114 rfl (lv_at hl 4 rfl) ?_
      refine cc_iVF (As := []) (rest := []) (wr := wL cI cZ cJ ad o f u') ⟨hx, hb, hml, hown, hts⟩ (k_X10_thrown l D cI cZ am v' rfl) (cwV 0 hts (gwV mw_968 mw_969 mw_970 mw_59 mw_971) rfl rfl rfl (by decide +kernel) ⟨(Nat.le_of_ble_eq_true rfl), (Nat.le_of_ble_eq_true rfl)⟩) (hK.sub [0, 1] rfl) hP hD hS hA hZ [0, 1, 2, 3, 4, 5, 6, 7, 8, 9, 10, 11, 12, 13, 14, 15, 16, 17, 18, 19, 20, 21, 22, 23] [24, 25, 26, 27, 28, 29, 30, 31, 32, 33, 34, 35, 36, 37, 38, 39, 40, 41, 42, 43, 44, 45, 46, 47, 48, 49, 50, 51, 52, 53, 54, 55, 56, 57, 58, 59] rfl rfl (by decide) rfl (by decide) (by decide) (ci := 10) (q0 := 0) rfl rfl rfl hl.1 rfl (Nat.le_of_ble_eq_true rfl) dL_law_1115 ⟨by show 60 + (j + 1) ≤ 1087; omega, by show 5141 + 6 * (j + 1) ≤ 13351; omega⟩ (fun H locs hP hD hS => ?_)
      replace hP : va_P D vwCl (wM cI cZ am v' ++ wL cI cZ cJ ad o f u') H := hP.sub [36, 37, 38, 39, 40, 41, 42, 43, 44, 45, 46, 47, 48, 49, 50, 51, 52, 53, 54, 55, 56, 57, 58, 59, 0, 1, 2, 3, 4, 5, 6, 7, 8, 9, 10, 11, 12, 13, 14, 15, 16, 17, 18, 19, 20, 21, 22, 23, 24, 25, 26, 27, 28, 29, 30, 31, 32, 33, 34, 35] rfl
      replace hD : va_D (fun q : Nat => s.heap.size ≤ q) (wM cI cZ am v' ++ wL cI cZ cJ ad o f u') := hD.sub [36, 37, 38, 39, 40, 41, 42, 43, 44, 45, 46, 47, 48, 49, 50, 51, 52, 53, 54, 55, 56, 57, 58, 59, 0, 1, 2, 3, 4, 5, 6, 7, 8, 9, 10, 11, 12, 13, 14, 15, 16, 17, 18, 19, 20, 21, 22, 23, 24, 25, 26, 27, 28, 29, 30, 31, 32, 33, 34, 35] (by decide) rfl
      refine lv_iload hx hb dL_law_1118 (lv_at hl 1 rfl) ?_
      refine lv_icmp_eq (tgt := 1125) hx hb dL_law_1120 (by decide) (fun _ => ?_) (fun c1 => absurd ht c1)
      refine lv_iload hx hb dL_law_1125 (lv_at hl 1 rfl) ?_
      refine lv_if_ne (tgt := 1142) hx hb dL_law_1127 (by decide) (fun _ => ?_) (fun c1 => absurd c1 (by decide))
      refine lv_goto (tgt := 1764) hx hb dL_law_1142 (by decide) ?_
      exact kk _ _ _ _ _ ls hrel hP hD hS (lv_sub hl [2, 3, 4, 5, 6] rfl)
    · rcases List.mem_cons.mp hq with rfl | hq
      · refine lv_aload_n hx hb dL_law_1089 rfl (lv_at hl 1 rfl) ?_
        refine lv_aload_n hx hb dL_law_1090 rfl (lv_at hl 0 rfl) ?_
        refine lv_iload hx hb dL_law_1091 (lv_at hl 4 rfl) ?_
        refine lv_iconst (v := 1) hx hb dL_law_1093 (by decide) ?_
        refine lv_iadd hx hb dL_law_1094 ?_
        refine va_sld hx hb hX hbl hbA hS hi1 dL_law_1095 ?_
        refine lv_topn hp1 ?_
        refine lv_aload_n hx hb dL_law_1096 rfl (lv_at hl 3 rfl) ?_
        refine cc_iSHF (As := [.ref (ad 0), .int p1, .ref o]) (rest := []) (wr := wM cI cZ am v) ⟨hx, hb, hml, hown, hts⟩ (kx2_L_confirm l hl0 D cI cZ cJ ad o f u p1 hc) (vx_cwSW 3 hts (gwSH mw_725 mw_726 mw_47 mw_727) rfl rfl rfl (by decide +kernel) ⟨(Nat.le_of_ble_eq_true rfl), (Nat.le_of_ble_eq_true rfl)⟩) hK hP hD hS hA hZ [24, 25, 26, 27, 28, 29, 30, 31, 32, 33, 34, 35, 36, 37, 38, 39, 40, 41, 42, 43, 44, 45, 46, 47, 48, 49, 50, 51, 52, 53, 54, 55, 56, 57, 58, 59] [0, 1, 2, 3, 4, 5, 6, 7, 8, 9, 10, 11, 12, 13, 14, 15, 16, 17, 18, 19, 20, 21, 22, 23] rfl rfl (by decide) rfl (by decide) (by decide) rfl hl.1 rfl (Nat.le_of_ble_eq_true rfl) dL_law_1097 ⟨by show 60 + j + 1 ≤ 1087; omega, by show 5141 + 6 * j + 6 ≤ 13351; omega⟩ (fun H locs hP hD hS => ?_)
        replace hP : va_P D vwCl (wM cI cZ am v ++ wL cI cZ cJ ad o f u') H := hP
        replace hD : va_D (fun q : Nat => s.heap.size ≤ q) (wM cI cZ am v ++ wL cI cZ cJ ad o f u') := hD
        refine W.widen (k := 60 + (j + 1)) (n := 5141 + 6 * (j + 1)) (by omega) (by omega) ?_
        refine lv_istore (lv' := [(5, .int 2), (0, .ref b), (1, .ref (ad 0)), (2, .ref (am 0)), (3, .ref o), (4, .int i)]) hx hb dL_law_1100 hl (by decide) rfl (fun ls hl => ?_)
        refine lv_aload_n hx hb dL_law_1102 rfl (lv_at hl 3 rfl) ?_
        refine lv_aload_n hx hb dL_law_1103 rfl (lv_at hl 1 rfl) ?_
        refine lv_iload hx hb dL_law_1104 (lv_at hl 5 rfl) ?_
        refine lv_iconst (v := 1) hx hb dL_law_1106 (by decide) ?_
        refine lv_iadd hx hb dL_law_1107 ?_
        refine va_sld hx hb hX hbl hbA hS hi1 dL_law_1108 ?_
        refine lv_topn hp1 ?_
        refine cc_iVF (As := [.int p1]) (rest := []) (wr := wL cI cZ cJ ad o f u') ⟨hx, hb, hml, hown, hts⟩ (k_X10_confirm l D cI cZ am v p1 hm) (cwV 1 hts (gwV mw_1106 mw_1107 mw_1108 mw_59 mw_1109) rfl rfl rfl (by decide +kernel) ⟨(Nat.le_of_ble_eq_true rfl), (Nat.le_of_ble_eq_true rfl)⟩) (hK.sub [0, 1] rfl) hP hD hS hA hZ [0, 1, 2, 3, 4, 5, 6, 7, 8, 9, 10, 11, 12, 13, 14, 15, 16, 17, 18, 19, 20, 21, 22, 23] [24, 25, 26, 27, 28, 29, 30, 31, 32, 33, 34, 35, 36, 37, 38, 39, 40, 41, 42, 43, 44, 45, 46, 47, 48, 49, 50, 51, 52, 53, 54, 55, 56, 57, 58, 59] rfl rfl (by decide) rfl (by decide) (by decide) (ci := 10) (q0 := 0) rfl rfl rfl hl.1 rfl (Nat.le_of_ble_eq_true rfl) dL_law_1109 ⟨by show 60 + (j + 1) ≤ 1087; omega, by show 5141 + 6 * (j + 1) ≤ 13351; omega⟩ (fun H locs hP hD hS => ?_)
        replace hP : va_P D vwCl (wM cI cZ am v' ++ wL cI cZ cJ ad o f u') H := hP.sub [36, 37, 38, 39, 40, 41, 42, 43, 44, 45, 46, 47, 48, 49, 50, 51, 52, 53, 54, 55, 56, 57, 58, 59, 0, 1, 2, 3, 4, 5, 6, 7, 8, 9, 10, 11, 12, 13, 14, 15, 16, 17, 18, 19, 20, 21, 22, 23, 24, 25, 26, 27, 28, 29, 30, 31, 32, 33, 34, 35] rfl
        replace hD : va_D (fun q : Nat => s.heap.size ≤ q) (wM cI cZ am v' ++ wL cI cZ cJ ad o f u') := hD.sub [36, 37, 38, 39, 40, 41, 42, 43, 44, 45, 46, 47, 48, 49, 50, 51, 52, 53, 54, 55, 56, 57, 58, 59, 0, 1, 2, 3, 4, 5, 6, 7, 8, 9, 10, 11, 12, 13, 14, 15, 16, 17, 18, 19, 20, 21, 22, 23, 24, 25, 26, 27, 28, 29, 30, 31, 32, 33, 34, 35] (by decide) rfl
        refine lv_istore (lv' := [(6, .int b9), (5, .int 2), (0, .ref b), (1, .ref (ad 0)), (2, .ref (am 0)), (3, .ref o), (4, .int i)]) hx hb dL_law_1112 hl (by decide) rfl (fun ls hl => ?_)
        refine lv_aload_n hx hb dL_law_1114 rfl (lv_at hl 4 rfl) ?_
        refine cc_iVF (As := []) (rest := []) (wr := wL cI cZ cJ ad o f u') ⟨hx, hb, hml, hown, hts⟩ (k_X10_thrown l D cI cZ am v' rfl) (cwV 0 hts (gwV mw_968 mw_969 mw_970 mw_59 mw_971) rfl rfl rfl (by decide +kernel) ⟨(Nat.le_of_ble_eq_true rfl), (Nat.le_of_ble_eq_true rfl)⟩) (hK.sub [0, 1] rfl) hP hD hS hA hZ [0, 1, 2, 3, 4, 5, 6, 7, 8, 9, 10, 11, 12, 13, 14, 15, 16, 17, 18, 19, 20, 21, 22, 23] [24, 25, 26, 27, 28, 29, 30, 31, 32, 33, 34, 35, 36, 37, 38, 39, 40, 41, 42, 43, 44, 45, 46, 47, 48, 49, 50, 51, 52, 53, 54, 55, 56, 57, 58, 59] rfl rfl (by decide) rfl (by decide) (by decide) (ci := 10) (q0 := 0) rfl rfl rfl hl.1 rfl (Nat.le_of_ble_eq_true rfl) dL_law_1115 ⟨by show 60 + (j + 1) ≤ 1087; omega, by show 5141 + 6 * (j + 1) ≤ 13351; omega⟩ (fun H locs hP hD hS => ?_)
        replace hP : va_P D vwCl (wM cI cZ am v' ++ wL cI cZ cJ ad o f u') H := hP.sub [36, 37, 38, 39, 40, 41, 42, 43, 44, 45, 46, 47, 48, 49, 50, 51, 52, 53, 54, 55, 56, 57, 58, 59, 0, 1, 2, 3, 4, 5, 6, 7, 8, 9, 10, 11, 12, 13, 14, 15, 16, 17, 18, 19, 20, 21, 22, 23, 24, 25, 26, 27, 28, 29, 30, 31, 32, 33, 34, 35] rfl
        replace hD : va_D (fun q : Nat => s.heap.size ≤ q) (wM cI cZ am v' ++ wL cI cZ cJ ad o f u') := hD.sub [36, 37, 38, 39, 40, 41, 42, 43, 44, 45, 46, 47, 48, 49, 50, 51, 52, 53, 54, 55, 56, 57, 58, 59, 0, 1, 2, 3, 4, 5, 6, 7, 8, 9, 10, 11, 12, 13, 14, 15, 16, 17, 18, 19, 20, 21, 22, 23, 24, 25, 26, 27, 28, 29, 30, 31, 32, 33, 34, 35] (by decide) rfl
        refine lv_iload hx hb dL_law_1118 (lv_at hl 1 rfl) ?_
        refine lv_icmp_eq (tgt := 1125) hx hb dL_law_1120 (by decide) (fun _ => ?_) (fun c1 => absurd ht c1)
        refine lv_iload hx hb dL_law_1125 (lv_at hl 1 rfl) ?_
        refine lv_if_ne (tgt := 1142) hx hb dL_law_1127 (by decide) (fun _ => ?_) (fun c1 => absurd c1 (by decide))
        refine lv_goto (tgt := 1764) hx hb dL_law_1142 (by decide) ?_
        exact kk _ _ _ _ _ ls hrel hP hD hS (lv_sub hl [2, 3, 4, 5, 6] rfl)
      · exact absurd hq List.not_mem_nil

set_option maxHeartbeats 4000000 in
set_option maxRecDepth 100000 in
theorem lc_incident {p : Program} {l : Launch} {e : Env} {s : State} {m : MethodId} {below : List Frame} {meth : Method} {c : Code} {b L : Nat} {xs : Nat → Int32} (hl0 : l.stackTraces = false) (C0 : lw_At p s m meth c b L xs) (hZ : cst (fun q : Nat => s.heap.size ≤ q) s) {D : va_G} {cI cZ cJ : ClassId} (hK : va_K D vwCl [(cI, .int), (cZ, .boolean), (cJ, .long)] s) {Rel : GS → MS → Prop} {am ad : Nat → Nat} {o : Nat} {f : Nat → Int64} {u : GS} {v : MS} {i : Int32} {j : Nat} (hj : j ≤ 511) (hi : lin i L) {p1 : Int32} (hp1 : xs (i + 1).toNatClampNeg = p1) {p2 : Int32} (hp2 : xs (i + 2).toNatClampNeg = p2) (hsim : SI Rel (g_X9_incident u p1 p2) (g_X10_incident v p1 p2) [("java/lang/IndexOutOfBoundsException", 1), ("java/lang/IllegalArgumentException", 2)]) {H : Heap} {locs : List Loc} {ls : Array Slot} (hP : va_P D vwCl (wM cI cZ am v ++ wL cI cZ cJ ad o f u) H) (hD : va_D (fun q : Nat => s.heap.size ≤ q) (wM cI cZ am v ++ wL cI cZ cJ ad o f u)) (hS : va_S (fun q : Nat => s.heap.size ≤ q) s.heap H locs) (hl : lv_has ls 7 [(0, .ref b), (1, .ref (ad 0)), (2, .ref (am 0)), (3, .ref o), (4, .int i)]) (kk : ∀ (u' : GS) (v' : MS) (f' : Nat → Int64) (H : Heap) (locs : List Loc) (ls : Array Slot), Rel u' v' → va_P D vwCl (wM cI cZ am v' ++ wL cI cZ cJ ad o f' u') H → va_D (fun q : Nat => s.heap.size ≤ q) (wM cI cZ am v' ++ wL cI cZ cJ ad o f' u') → va_S (fun q : Nat => s.heap.size ≤ q) s.heap H locs → lv_has ls 7 [(0, .ref b), (1, .ref (ad 0)), (2, .ref (am 0)), (3, .ref o), (4, .int i)] → W p l e room_1 s m #[Value.ref b] below meth c H locs (60 + (j + 1)) (5141 + 6 * (j + 1)) (lw_Z below #[Value.ref b] s) (F0 m 1764 ls [])) : W p l e room_1 s m #[Value.ref b] below meth c H locs (60 + j) (5141 + 6 * j) (lw_Z below #[Value.ref b] s) (F0 m 1145 ls []) := by
  obtain ⟨hx, hb, hr, hml, hown, hts0, hX, hbl, hlocks, hgv⟩ := id C0
  have hts : ∀ w ∈ Wall, w.before #[Value.ref b] s = true := fun w h => hts0 w (wall_tbl w h)
  have hA : ∀ q : Nat, s.heap.size ≤ q → (fun q : Nat => s.heap.size ≤ q) q := fun _ h => h
  have hbA : ¬ (fun q : Nat => s.heap.size ≤ q) b := Nat.not_le.mpr hbl
  obtain ⟨-, hi1, hi2, hi3, hi4, hi5⟩ := hi
  rcases hsim with ⟨r, u', v', hc, hm, ht, hrel⟩ | ⟨q, u', b9, v', hq, hc, hm, ht, hrel⟩
  · refine lv_aload_n hx hb dL_law_1145 rfl (lv_at hl 1 rfl) ?_
    refine lv_aload_n hx hb dL_law_1146 rfl (lv_at hl 0 rfl) ?_
    refine lv_iload hx hb dL_law_1147 (lv_at hl 4 rfl) ?_
    refine lv_iconst (v := 1) hx hb dL_law_1149 (by decide) ?_
    refine lv_iadd hx hb dL_law_1150 ?_
    refine va_sld hx hb hX hbl hbA hS hi1 dL_law_1151 ?_
    refine lv_topn hp1 ?_
    refine lv_aload_n hx hb dL_law_1152 rfl (lv_at hl 0 rfl) ?_
    refine lv_iload hx hb dL_law_1153 (lv_at hl 4 rfl) ?_
    refine lv_iconst (v := 2) hx hb dL_law_1155 (by decide) ?_
    refine lv_iadd hx hb dL_law_1156 ?_
    refine va_sld hx hb hX hbl hbA hS hi2 dL_law_1157 ?_
    refine lv_topn hp2 ?_
    refine lv_aload_n hx hb dL_law_1158 rfl (lv_at hl 3 rfl) ?_
    refine cc_iSHF (As := [.ref (ad 0), .int p1, .int p2, .ref o]) (rest := []) (wr := wM cI cZ am v) ⟨hx, hb, hml, hown, hts⟩ (k_L_incident l D cI cZ cJ ad o f u p1 p2 hc) (vx_cwSW 4 hts (gwSH mw_733 mw_734 mw_47 mw_735) rfl rfl rfl (by decide +kernel) ⟨(Nat.le_of_ble_eq_true rfl), (Nat.le_of_ble_eq_true rfl)⟩) hK hP hD hS hA hZ [24, 25, 26, 27, 28, 29, 30, 31, 32, 33, 34, 35, 36, 37, 38, 39, 40, 41, 42, 43, 44, 45, 46, 47, 48, 49, 50, 51, 52, 53, 54, 55, 56, 57, 58, 59] [0, 1, 2, 3, 4, 5, 6, 7, 8, 9, 10, 11, 12, 13, 14, 15, 16, 17, 18, 19, 20, 21, 22, 23] rfl rfl (by decide) rfl (by decide) (by decide) rfl hl.1 rfl (Nat.le_of_ble_eq_true rfl) dL_law_1159 ⟨by show 60 + j ≤ 1087; omega, by show 5141 + 6 * j ≤ 13351; omega⟩ (fun H locs hP hD hS => ?_)
    replace hP : va_P D vwCl (wM cI cZ am v ++ wL cI cZ cJ ad o (vp_updL f (0 : Int32).toNatClampNeg r.toInt64) u') H := hP
    replace hD : va_D (fun q : Nat => s.heap.size ≤ q) (wM cI cZ am v ++ wL cI cZ cJ ad o (vp_updL f (0 : Int32).toNatClampNeg r.toInt64) u') := hD
    refine W.widen (k := 60 + (j + 1)) (n := 5141 + 6 * (j + 1)) (by omega) (by omega) ?_
    refine lv_istore (lv' := [(5, .int 0), (0, .ref b), (1, .ref (ad 0)), (2, .ref (am 0)), (3, .ref o), (4, .int i)]) hx hb dL_law_1162 hl (by decide) rfl (fun ls hl => ?_)
    refine lv_aload_n hx hb dL_law_1164 rfl (lv_at hl 3 rfl) ?_
    refine lv_aload_n hx hb dL_law_1165 rfl (lv_at hl 1 rfl) ?_
    refine lv_iload hx hb dL_law_1166 (lv_at hl 5 rfl) ?_
    refine lv_iconst (v := 1) hx hb dL_law_1168 (by decide) ?_
    refine lv_iadd hx hb dL_law_1169 ?_
    refine va_sld hx hb hX hbl hbA hS hi1 dL_law_1170 ?_
    refine lv_topn hp1 ?_
    refine lv_aload_n hx hb dL_law_1171 rfl (lv_at hl 1 rfl) ?_
    refine lv_iload hx hb dL_law_1172 (lv_at hl 5 rfl) ?_
    refine lv_iconst (v := 2) hx hb dL_law_1174 (by decide) ?_
    refine lv_iadd hx hb dL_law_1175 ?_
    refine va_sld hx hb hX hbl hbA hS hi2 dL_law_1176 ?_
    refine lv_topn hp2 ?_
    refine cc_iVF (As := [.int p1, .int p2]) (rest := []) (wr := wL cI cZ cJ ad o (vp_updL f (0 : Int32).toNatClampNeg r.toInt64) u') ⟨hx, hb, hml, hown, hts⟩ (k_X10_incident l D cI cZ am v p1 p2 hm) (cwV 2 hts (gwV mw_1114 mw_1115 mw_1116 mw_59 mw_1117) rfl rfl rfl (by decide +kernel) ⟨(Nat.le_of_ble_eq_true rfl), (Nat.le_of_ble_eq_true rfl)⟩) (hK.sub [0, 1] rfl) hP hD hS hA hZ [0, 1, 2, 3, 4, 5, 6, 7, 8, 9, 10, 11, 12, 13, 14, 15, 16, 17, 18, 19, 20, 21, 22, 23] [24, 25, 26, 27, 28, 29, 30, 31, 32, 33, 34, 35, 36, 37, 38, 39, 40, 41, 42, 43, 44, 45, 46, 47, 48, 49, 50, 51, 52, 53, 54, 55, 56, 57, 58, 59] rfl rfl (by decide) rfl (by decide) (by decide) (ci := 10) (q0 := 0) rfl rfl rfl hl.1 rfl (Nat.le_of_ble_eq_true rfl) dL_law_1177 ⟨by show 60 + (j + 1) ≤ 1087; omega, by show 5141 + 6 * (j + 1) ≤ 13351; omega⟩ (fun H locs hP hD hS => ?_)
    replace hP : va_P D vwCl (wM cI cZ am v' ++ wL cI cZ cJ ad o (vp_updL f (0 : Int32).toNatClampNeg r.toInt64) u') H := hP.sub [36, 37, 38, 39, 40, 41, 42, 43, 44, 45, 46, 47, 48, 49, 50, 51, 52, 53, 54, 55, 56, 57, 58, 59, 0, 1, 2, 3, 4, 5, 6, 7, 8, 9, 10, 11, 12, 13, 14, 15, 16, 17, 18, 19, 20, 21, 22, 23, 24, 25, 26, 27, 28, 29, 30, 31, 32, 33, 34, 35] rfl
    replace hD : va_D (fun q : Nat => s.heap.size ≤ q) (wM cI cZ am v' ++ wL cI cZ cJ ad o (vp_updL f (0 : Int32).toNatClampNeg r.toInt64) u') := hD.sub [36, 37, 38, 39, 40, 41, 42, 43, 44, 45, 46, 47, 48, 49, 50, 51, 52, 53, 54, 55, 56, 57, 58, 59, 0, 1, 2, 3, 4, 5, 6, 7, 8, 9, 10, 11, 12, 13, 14, 15, 16, 17, 18, 19, 20, 21, 22, 23, 24, 25, 26, 27, 28, 29, 30, 31, 32, 33, 34, 35] (by decide) rfl
    refine lv_istore (lv' := [(6, .int r), (5, .int 0), (0, .ref b), (1, .ref (ad 0)), (2, .ref (am 0)), (3, .ref o), (4, .int i)]) hx hb dL_law_1180 hl (by decide) rfl (fun ls hl => ?_)
    refine lv_aload_n hx hb dL_law_1182 rfl (lv_at hl 4 rfl) ?_
    refine cc_iVF (As := []) (rest := []) (wr := wL cI cZ cJ ad o (vp_updL f (0 : Int32).toNatClampNeg r.toInt64) u') ⟨hx, hb, hml, hown, hts⟩ (k_X10_thrown l D cI cZ am v' rfl) (cwV 0 hts (gwV mw_968 mw_969 mw_970 mw_59 mw_971) rfl rfl rfl (by decide +kernel) ⟨(Nat.le_of_ble_eq_true rfl), (Nat.le_of_ble_eq_true rfl)⟩) (hK.sub [0, 1] rfl) hP hD hS hA hZ [0, 1, 2, 3, 4, 5, 6, 7, 8, 9, 10, 11, 12, 13, 14, 15, 16, 17, 18, 19, 20, 21, 22, 23] [24, 25, 26, 27, 28, 29, 30, 31, 32, 33, 34, 35, 36, 37, 38, 39, 40, 41, 42, 43, 44, 45, 46, 47, 48, 49, 50, 51, 52, 53, 54, 55, 56, 57, 58, 59] rfl rfl (by decide) rfl (by decide) (by decide) (ci := 10) (q0 := 0) rfl rfl rfl hl.1 rfl (Nat.le_of_ble_eq_true rfl) dL_law_1183 ⟨by show 60 + (j + 1) ≤ 1087; omega, by show 5141 + 6 * (j + 1) ≤ 13351; omega⟩ (fun H locs hP hD hS => ?_)
    replace hP : va_P D vwCl (wM cI cZ am v' ++ wL cI cZ cJ ad o (vp_updL f (0 : Int32).toNatClampNeg r.toInt64) u') H := hP.sub [36, 37, 38, 39, 40, 41, 42, 43, 44, 45, 46, 47, 48, 49, 50, 51, 52, 53, 54, 55, 56, 57, 58, 59, 0, 1, 2, 3, 4, 5, 6, 7, 8, 9, 10, 11, 12, 13, 14, 15, 16, 17, 18, 19, 20, 21, 22, 23, 24, 25, 26, 27, 28, 29, 30, 31, 32, 33, 34, 35] rfl
    replace hD : va_D (fun q : Nat => s.heap.size ≤ q) (wM cI cZ am v' ++ wL cI cZ cJ ad o (vp_updL f (0 : Int32).toNatClampNeg r.toInt64) u') := hD.sub [36, 37, 38, 39, 40, 41, 42, 43, 44, 45, 46, 47, 48, 49, 50, 51, 52, 53, 54, 55, 56, 57, 58, 59, 0, 1, 2, 3, 4, 5, 6, 7, 8, 9, 10, 11, 12, 13, 14, 15, 16, 17, 18, 19, 20, 21, 22, 23, 24, 25, 26, 27, 28, 29, 30, 31, 32, 33, 34, 35] (by decide) rfl
    refine lv_iload hx hb dL_law_1186 (lv_at hl 1 rfl) ?_
    refine lv_icmp_eq (tgt := 1193) hx hb dL_law_1188 (by decide) (fun _ => ?_) (fun c1 => absurd ht c1)
    refine lv_iload hx hb dL_law_1193 (lv_at hl 1 rfl) ?_
    refine lv_if_ne (tgt := 1210) hx hb dL_law_1195 (by decide) (fun c1 => absurd rfl c1) (fun _ => ?_)
    refine lv_aload_n hx hb dL_law_1198 rfl (lv_at hl 5 rfl) ?_
    refine lv_iconst (v := 0) hx hb dL_law_1199 (by decide) ?_
    refine va_lald (D := D) hx hb hK hP 24 2 rfl rfl (by unfold vp_in; decide) dL_law_1200 ?_
    refine lv_iload hx hb dL_law_1201 (lv_at hl 0 rfl) ?_
    refine lv_i2l (v := r.toInt64) hx hb dL_law_1203 rfl ?_
    refine W.lcmp hx hb dL_law_1204 ?_
    refine lv_if_eq (tgt := 1210) hx hb dL_law_1205 (by decide) (fun _ => ?_) (fun c2 => absurd (by simp [lg_cmp, vp_updL]) c2)
    refine lv_goto (tgt := 1764) hx hb dL_law_1210 (by decide) ?_
    exact kk _ _ _ _ _ ls hrel hP hD hS (lv_sub hl [2, 3, 4, 5, 6] rfl)
  · rcases List.mem_cons.mp hq with rfl | hq
    · refine lv_aload_n hx hb dL_law_1145 rfl (lv_at hl 1 rfl) ?_
      refine lv_aload_n hx hb dL_law_1146 rfl (lv_at hl 0 rfl) ?_
      refine lv_iload hx hb dL_law_1147 (lv_at hl 4 rfl) ?_
      refine lv_iconst (v := 1) hx hb dL_law_1149 (by decide) ?_
      refine lv_iadd hx hb dL_law_1150 ?_
      refine va_sld hx hb hX hbl hbA hS hi1 dL_law_1151 ?_
      refine lv_topn hp1 ?_
      refine lv_aload_n hx hb dL_law_1152 rfl (lv_at hl 0 rfl) ?_
      refine lv_iload hx hb dL_law_1153 (lv_at hl 4 rfl) ?_
      refine lv_iconst (v := 2) hx hb dL_law_1155 (by decide) ?_
      refine lv_iadd hx hb dL_law_1156 ?_
      refine va_sld hx hb hX hbl hbA hS hi2 dL_law_1157 ?_
      refine lv_topn hp2 ?_
      refine lv_aload_n hx hb dL_law_1158 rfl (lv_at hl 3 rfl) ?_
      refine cc_iSHF (As := [.ref (ad 0), .int p1, .int p2, .ref o]) (rest := []) (wr := wM cI cZ am v) ⟨hx, hb, hml, hown, hts⟩ (kx1_L_incident l hl0 D cI cZ cJ ad o f u p1 p2 hc) (vx_cwSW 4 hts (gwSH mw_733 mw_734 mw_47 mw_735) rfl rfl rfl (by decide +kernel) ⟨(Nat.le_of_ble_eq_true rfl), (Nat.le_of_ble_eq_true rfl)⟩) hK hP hD hS hA hZ [24, 25, 26, 27, 28, 29, 30, 31, 32, 33, 34, 35, 36, 37, 38, 39, 40, 41, 42, 43, 44, 45, 46, 47, 48, 49, 50, 51, 52, 53, 54, 55, 56, 57, 58, 59] [0, 1, 2, 3, 4, 5, 6, 7, 8, 9, 10, 11, 12, 13, 14, 15, 16, 17, 18, 19, 20, 21, 22, 23] rfl rfl (by decide) rfl (by decide) (by decide) rfl hl.1 rfl (Nat.le_of_ble_eq_true rfl) dL_law_1159 ⟨by show 60 + j + 1 ≤ 1087; omega, by show 5141 + 6 * j + 6 ≤ 13351; omega⟩ (fun H locs hP hD hS => ?_)
      replace hP : va_P D vwCl (wM cI cZ am v ++ wL cI cZ cJ ad o f u') H := hP
      replace hD : va_D (fun q : Nat => s.heap.size ≤ q) (wM cI cZ am v ++ wL cI cZ cJ ad o f u') := hD
      refine W.widen (k := 60 + (j + 1)) (n := 5141 + 6 * (j + 1)) (by omega) (by omega) ?_
      refine lv_istore (lv' := [(5, .int 1), (0, .ref b), (1, .ref (ad 0)), (2, .ref (am 0)), (3, .ref o), (4, .int i)]) hx hb dL_law_1162 hl (by decide) rfl (fun ls hl => ?_)
      refine lv_aload_n hx hb dL_law_1164 rfl (lv_at hl 3 rfl) ?_
      refine lv_aload_n hx hb dL_law_1165 rfl (lv_at hl 1 rfl) ?_
      refine lv_iload hx hb dL_law_1166 (lv_at hl 5 rfl) ?_
      refine lv_iconst (v := 1) hx hb dL_law_1168 (by decide) ?_
      refine lv_iadd hx hb dL_law_1169 ?_
      refine va_sld hx hb hX hbl hbA hS hi1 dL_law_1170 ?_
      refine lv_topn hp1 ?_
      refine lv_aload_n hx hb dL_law_1171 rfl (lv_at hl 1 rfl) ?_
      refine lv_iload hx hb dL_law_1172 (lv_at hl 5 rfl) ?_
      refine lv_iconst (v := 2) hx hb dL_law_1174 (by decide) ?_
      refine lv_iadd hx hb dL_law_1175 ?_
      refine va_sld hx hb hX hbl hbA hS hi2 dL_law_1176 ?_
      refine lv_topn hp2 ?_
      refine cc_iVF (As := [.int p1, .int p2]) (rest := []) (wr := wL cI cZ cJ ad o f u') ⟨hx, hb, hml, hown, hts⟩ (k_X10_incident l D cI cZ am v p1 p2 hm) (cwV 2 hts (gwV mw_1114 mw_1115 mw_1116 mw_59 mw_1117) rfl rfl rfl (by decide +kernel) ⟨(Nat.le_of_ble_eq_true rfl), (Nat.le_of_ble_eq_true rfl)⟩) (hK.sub [0, 1] rfl) hP hD hS hA hZ [0, 1, 2, 3, 4, 5, 6, 7, 8, 9, 10, 11, 12, 13, 14, 15, 16, 17, 18, 19, 20, 21, 22, 23] [24, 25, 26, 27, 28, 29, 30, 31, 32, 33, 34, 35, 36, 37, 38, 39, 40, 41, 42, 43, 44, 45, 46, 47, 48, 49, 50, 51, 52, 53, 54, 55, 56, 57, 58, 59] rfl rfl (by decide) rfl (by decide) (by decide) (ci := 10) (q0 := 0) rfl rfl rfl hl.1 rfl (Nat.le_of_ble_eq_true rfl) dL_law_1177 ⟨by show 60 + (j + 1) ≤ 1087; omega, by show 5141 + 6 * (j + 1) ≤ 13351; omega⟩ (fun H locs hP hD hS => ?_)
      replace hP : va_P D vwCl (wM cI cZ am v' ++ wL cI cZ cJ ad o f u') H := hP.sub [36, 37, 38, 39, 40, 41, 42, 43, 44, 45, 46, 47, 48, 49, 50, 51, 52, 53, 54, 55, 56, 57, 58, 59, 0, 1, 2, 3, 4, 5, 6, 7, 8, 9, 10, 11, 12, 13, 14, 15, 16, 17, 18, 19, 20, 21, 22, 23, 24, 25, 26, 27, 28, 29, 30, 31, 32, 33, 34, 35] rfl
      replace hD : va_D (fun q : Nat => s.heap.size ≤ q) (wM cI cZ am v' ++ wL cI cZ cJ ad o f u') := hD.sub [36, 37, 38, 39, 40, 41, 42, 43, 44, 45, 46, 47, 48, 49, 50, 51, 52, 53, 54, 55, 56, 57, 58, 59, 0, 1, 2, 3, 4, 5, 6, 7, 8, 9, 10, 11, 12, 13, 14, 15, 16, 17, 18, 19, 20, 21, 22, 23, 24, 25, 26, 27, 28, 29, 30, 31, 32, 33, 34, 35] (by decide) rfl
      refine lv_istore (lv' := [(6, .int b9), (5, .int 1), (0, .ref b), (1, .ref (ad 0)), (2, .ref (am 0)), (3, .ref o), (4, .int i)]) hx hb dL_law_1180 hl (by decide) rfl (fun ls hl => ?_)
      refine lv_aload_n hx hb dL_law_1182 rfl (lv_at hl 4 rfl) ?_
      refine cc_iVF (As := []) (rest := []) (wr := wL cI cZ cJ ad o f u') ⟨hx, hb, hml, hown, hts⟩ (k_X10_thrown l D cI cZ am v' rfl) (cwV 0 hts (gwV mw_968 mw_969 mw_970 mw_59 mw_971) rfl rfl rfl (by decide +kernel) ⟨(Nat.le_of_ble_eq_true rfl), (Nat.le_of_ble_eq_true rfl)⟩) (hK.sub [0, 1] rfl) hP hD hS hA hZ [0, 1, 2, 3, 4, 5, 6, 7, 8, 9, 10, 11, 12, 13, 14, 15, 16, 17, 18, 19, 20, 21, 22, 23] [24, 25, 26, 27, 28, 29, 30, 31, 32, 33, 34, 35, 36, 37, 38, 39, 40, 41, 42, 43, 44, 45, 46, 47, 48, 49, 50, 51, 52, 53, 54, 55, 56, 57, 58, 59] rfl rfl (by decide) rfl (by decide) (by decide) (ci := 10) (q0 := 0) rfl rfl rfl hl.1 rfl (Nat.le_of_ble_eq_true rfl) dL_law_1183 ⟨by show 60 + (j + 1) ≤ 1087; omega, by show 5141 + 6 * (j + 1) ≤ 13351; omega⟩ (fun H locs hP hD hS => ?_)
      replace hP : va_P D vwCl (wM cI cZ am v' ++ wL cI cZ cJ ad o f u') H := hP.sub [36, 37, 38, 39, 40, 41, 42, 43, 44, 45, 46, 47, 48, 49, 50, 51, 52, 53, 54, 55, 56, 57, 58, 59, 0, 1, 2, 3, 4, 5, 6, 7, 8, 9, 10, 11, 12, 13, 14, 15, 16, 17, 18, 19, 20, 21, 22, 23, 24, 25, 26, 27, 28, 29, 30, 31, 32, 33, 34, 35] rfl
      replace hD : va_D (fun q : Nat => s.heap.size ≤ q) (wM cI cZ am v' ++ wL cI cZ cJ ad o f u') := hD.sub [36, 37, 38, 39, 40, 41, 42, 43, 44, 45, 46, 47, 48, 49, 50, 51, 52, 53, 54, 55, 56, 57, 58, 59, 0, 1, 2, 3, 4, 5, 6, 7, 8, 9, 10, 11, 12, 13, 14, 15, 16, 17, 18, 19, 20, 21, 22, 23, 24, 25, 26, 27, 28, 29, 30, 31, 32, 33, 34, 35] (by decide) rfl
      refine lv_iload hx hb dL_law_1186 (lv_at hl 1 rfl) ?_
      refine lv_icmp_eq (tgt := 1193) hx hb dL_law_1188 (by decide) (fun _ => ?_) (fun c1 => absurd ht c1)
      refine lv_iload hx hb dL_law_1193 (lv_at hl 1 rfl) ?_
      refine lv_if_ne (tgt := 1210) hx hb dL_law_1195 (by decide) (fun _ => ?_) (fun c1 => absurd c1 (by decide))
      refine lv_goto (tgt := 1764) hx hb dL_law_1210 (by decide) ?_
      exact kk _ _ _ _ _ ls hrel hP hD hS (lv_sub hl [2, 3, 4, 5, 6] rfl)
    · rcases List.mem_cons.mp hq with rfl | hq
      · refine lv_aload_n hx hb dL_law_1145 rfl (lv_at hl 1 rfl) ?_
        refine lv_aload_n hx hb dL_law_1146 rfl (lv_at hl 0 rfl) ?_
        refine lv_iload hx hb dL_law_1147 (lv_at hl 4 rfl) ?_
        refine lv_iconst (v := 1) hx hb dL_law_1149 (by decide) ?_
        refine lv_iadd hx hb dL_law_1150 ?_
        refine va_sld hx hb hX hbl hbA hS hi1 dL_law_1151 ?_
        refine lv_topn hp1 ?_
        refine lv_aload_n hx hb dL_law_1152 rfl (lv_at hl 0 rfl) ?_
        refine lv_iload hx hb dL_law_1153 (lv_at hl 4 rfl) ?_
        refine lv_iconst (v := 2) hx hb dL_law_1155 (by decide) ?_
        refine lv_iadd hx hb dL_law_1156 ?_
        refine va_sld hx hb hX hbl hbA hS hi2 dL_law_1157 ?_
        refine lv_topn hp2 ?_
        refine lv_aload_n hx hb dL_law_1158 rfl (lv_at hl 3 rfl) ?_
        refine cc_iSHF (As := [.ref (ad 0), .int p1, .int p2, .ref o]) (rest := []) (wr := wM cI cZ am v) ⟨hx, hb, hml, hown, hts⟩ (kx2_L_incident l hl0 D cI cZ cJ ad o f u p1 p2 hc) (vx_cwSW 4 hts (gwSH mw_733 mw_734 mw_47 mw_735) rfl rfl rfl (by decide +kernel) ⟨(Nat.le_of_ble_eq_true rfl), (Nat.le_of_ble_eq_true rfl)⟩) hK hP hD hS hA hZ [24, 25, 26, 27, 28, 29, 30, 31, 32, 33, 34, 35, 36, 37, 38, 39, 40, 41, 42, 43, 44, 45, 46, 47, 48, 49, 50, 51, 52, 53, 54, 55, 56, 57, 58, 59] [0, 1, 2, 3, 4, 5, 6, 7, 8, 9, 10, 11, 12, 13, 14, 15, 16, 17, 18, 19, 20, 21, 22, 23] rfl rfl (by decide) rfl (by decide) (by decide) rfl hl.1 rfl (Nat.le_of_ble_eq_true rfl) dL_law_1159 ⟨by show 60 + j + 1 ≤ 1087; omega, by show 5141 + 6 * j + 6 ≤ 13351; omega⟩ (fun H locs hP hD hS => ?_)
        replace hP : va_P D vwCl (wM cI cZ am v ++ wL cI cZ cJ ad o f u') H := hP
        replace hD : va_D (fun q : Nat => s.heap.size ≤ q) (wM cI cZ am v ++ wL cI cZ cJ ad o f u') := hD
        refine W.widen (k := 60 + (j + 1)) (n := 5141 + 6 * (j + 1)) (by omega) (by omega) ?_
        refine lv_istore (lv' := [(5, .int 2), (0, .ref b), (1, .ref (ad 0)), (2, .ref (am 0)), (3, .ref o), (4, .int i)]) hx hb dL_law_1162 hl (by decide) rfl (fun ls hl => ?_)
        refine lv_aload_n hx hb dL_law_1164 rfl (lv_at hl 3 rfl) ?_
        refine lv_aload_n hx hb dL_law_1165 rfl (lv_at hl 1 rfl) ?_
        refine lv_iload hx hb dL_law_1166 (lv_at hl 5 rfl) ?_
        refine lv_iconst (v := 1) hx hb dL_law_1168 (by decide) ?_
        refine lv_iadd hx hb dL_law_1169 ?_
        refine va_sld hx hb hX hbl hbA hS hi1 dL_law_1170 ?_
        refine lv_topn hp1 ?_
        refine lv_aload_n hx hb dL_law_1171 rfl (lv_at hl 1 rfl) ?_
        refine lv_iload hx hb dL_law_1172 (lv_at hl 5 rfl) ?_
        refine lv_iconst (v := 2) hx hb dL_law_1174 (by decide) ?_
        refine lv_iadd hx hb dL_law_1175 ?_
        refine va_sld hx hb hX hbl hbA hS hi2 dL_law_1176 ?_
        refine lv_topn hp2 ?_
        refine cc_iVF (As := [.int p1, .int p2]) (rest := []) (wr := wL cI cZ cJ ad o f u') ⟨hx, hb, hml, hown, hts⟩ (k_X10_incident l D cI cZ am v p1 p2 hm) (cwV 2 hts (gwV mw_1114 mw_1115 mw_1116 mw_59 mw_1117) rfl rfl rfl (by decide +kernel) ⟨(Nat.le_of_ble_eq_true rfl), (Nat.le_of_ble_eq_true rfl)⟩) (hK.sub [0, 1] rfl) hP hD hS hA hZ [0, 1, 2, 3, 4, 5, 6, 7, 8, 9, 10, 11, 12, 13, 14, 15, 16, 17, 18, 19, 20, 21, 22, 23] [24, 25, 26, 27, 28, 29, 30, 31, 32, 33, 34, 35, 36, 37, 38, 39, 40, 41, 42, 43, 44, 45, 46, 47, 48, 49, 50, 51, 52, 53, 54, 55, 56, 57, 58, 59] rfl rfl (by decide) rfl (by decide) (by decide) (ci := 10) (q0 := 0) rfl rfl rfl hl.1 rfl (Nat.le_of_ble_eq_true rfl) dL_law_1177 ⟨by show 60 + (j + 1) ≤ 1087; omega, by show 5141 + 6 * (j + 1) ≤ 13351; omega⟩ (fun H locs hP hD hS => ?_)
        replace hP : va_P D vwCl (wM cI cZ am v' ++ wL cI cZ cJ ad o f u') H := hP.sub [36, 37, 38, 39, 40, 41, 42, 43, 44, 45, 46, 47, 48, 49, 50, 51, 52, 53, 54, 55, 56, 57, 58, 59, 0, 1, 2, 3, 4, 5, 6, 7, 8, 9, 10, 11, 12, 13, 14, 15, 16, 17, 18, 19, 20, 21, 22, 23, 24, 25, 26, 27, 28, 29, 30, 31, 32, 33, 34, 35] rfl
        replace hD : va_D (fun q : Nat => s.heap.size ≤ q) (wM cI cZ am v' ++ wL cI cZ cJ ad o f u') := hD.sub [36, 37, 38, 39, 40, 41, 42, 43, 44, 45, 46, 47, 48, 49, 50, 51, 52, 53, 54, 55, 56, 57, 58, 59, 0, 1, 2, 3, 4, 5, 6, 7, 8, 9, 10, 11, 12, 13, 14, 15, 16, 17, 18, 19, 20, 21, 22, 23, 24, 25, 26, 27, 28, 29, 30, 31, 32, 33, 34, 35] (by decide) rfl
        refine lv_istore (lv' := [(6, .int b9), (5, .int 2), (0, .ref b), (1, .ref (ad 0)), (2, .ref (am 0)), (3, .ref o), (4, .int i)]) hx hb dL_law_1180 hl (by decide) rfl (fun ls hl => ?_)
        refine lv_aload_n hx hb dL_law_1182 rfl (lv_at hl 4 rfl) ?_
        refine cc_iVF (As := []) (rest := []) (wr := wL cI cZ cJ ad o f u') ⟨hx, hb, hml, hown, hts⟩ (k_X10_thrown l D cI cZ am v' rfl) (cwV 0 hts (gwV mw_968 mw_969 mw_970 mw_59 mw_971) rfl rfl rfl (by decide +kernel) ⟨(Nat.le_of_ble_eq_true rfl), (Nat.le_of_ble_eq_true rfl)⟩) (hK.sub [0, 1] rfl) hP hD hS hA hZ [0, 1, 2, 3, 4, 5, 6, 7, 8, 9, 10, 11, 12, 13, 14, 15, 16, 17, 18, 19, 20, 21, 22, 23] [24, 25, 26, 27, 28, 29, 30, 31, 32, 33, 34, 35, 36, 37, 38, 39, 40, 41, 42, 43, 44, 45, 46, 47, 48, 49, 50, 51, 52, 53, 54, 55, 56, 57, 58, 59] rfl rfl (by decide) rfl (by decide) (by decide) (ci := 10) (q0 := 0) rfl rfl rfl hl.1 rfl (Nat.le_of_ble_eq_true rfl) dL_law_1183 ⟨by show 60 + (j + 1) ≤ 1087; omega, by show 5141 + 6 * (j + 1) ≤ 13351; omega⟩ (fun H locs hP hD hS => ?_)
        replace hP : va_P D vwCl (wM cI cZ am v' ++ wL cI cZ cJ ad o f u') H := hP.sub [36, 37, 38, 39, 40, 41, 42, 43, 44, 45, 46, 47, 48, 49, 50, 51, 52, 53, 54, 55, 56, 57, 58, 59, 0, 1, 2, 3, 4, 5, 6, 7, 8, 9, 10, 11, 12, 13, 14, 15, 16, 17, 18, 19, 20, 21, 22, 23, 24, 25, 26, 27, 28, 29, 30, 31, 32, 33, 34, 35] rfl
        replace hD : va_D (fun q : Nat => s.heap.size ≤ q) (wM cI cZ am v' ++ wL cI cZ cJ ad o f u') := hD.sub [36, 37, 38, 39, 40, 41, 42, 43, 44, 45, 46, 47, 48, 49, 50, 51, 52, 53, 54, 55, 56, 57, 58, 59, 0, 1, 2, 3, 4, 5, 6, 7, 8, 9, 10, 11, 12, 13, 14, 15, 16, 17, 18, 19, 20, 21, 22, 23, 24, 25, 26, 27, 28, 29, 30, 31, 32, 33, 34, 35] (by decide) rfl
        refine lv_iload hx hb dL_law_1186 (lv_at hl 1 rfl) ?_
        refine lv_icmp_eq (tgt := 1193) hx hb dL_law_1188 (by decide) (fun _ => ?_) (fun c1 => absurd ht c1)
        refine lv_iload hx hb dL_law_1193 (lv_at hl 1 rfl) ?_
        refine lv_if_ne (tgt := 1210) hx hb dL_law_1195 (by decide) (fun _ => ?_) (fun c1 => absurd c1 (by decide))
        refine lv_goto (tgt := 1764) hx hb dL_law_1210 (by decide) ?_
        exact kk _ _ _ _ _ ls hrel hP hD hS (lv_sub hl [2, 3, 4, 5, 6] rfl)
      · exact absurd hq List.not_mem_nil

set_option maxHeartbeats 4000000 in
set_option maxRecDepth 100000 in
theorem lc_pattern {p : Program} {l : Launch} {e : Env} {s : State} {m : MethodId} {below : List Frame} {meth : Method} {c : Code} {b L : Nat} {xs : Nat → Int32} (hl0 : l.stackTraces = false) (C0 : lw_At p s m meth c b L xs) (hZ : cst (fun q : Nat => s.heap.size ≤ q) s) {D : va_G} {cI cZ cJ : ClassId} (hK : va_K D vwCl [(cI, .int), (cZ, .boolean), (cJ, .long)] s) {Rel : GS → MS → Prop} {am ad : Nat → Nat} {o : Nat} {f : Nat → Int64} {u : GS} {v : MS} {i : Int32} {j : Nat} (hj : j ≤ 511) (hi : lin i L) (hsim : ∃ (r : Int32) (v' : MS), g_X9_pattern u = some r ∧ g_X10_pattern v = some (r, v') ∧ Rel u v') {H : Heap} {locs : List Loc} {ls : Array Slot} (hP : va_P D vwCl (wM cI cZ am v ++ wL cI cZ cJ ad o f u) H) (hD : va_D (fun q : Nat => s.heap.size ≤ q) (wM cI cZ am v ++ wL cI cZ cJ ad o f u)) (hS : va_S (fun q : Nat => s.heap.size ≤ q) s.heap H locs) (hl : lv_has ls 7 [(0, .ref b), (1, .ref (ad 0)), (2, .ref (am 0)), (3, .ref o), (4, .int i)]) (kk : ∀ (u' : GS) (v' : MS) (f' : Nat → Int64) (H : Heap) (locs : List Loc) (ls : Array Slot), Rel u' v' → va_P D vwCl (wM cI cZ am v' ++ wL cI cZ cJ ad o f' u') H → va_D (fun q : Nat => s.heap.size ≤ q) (wM cI cZ am v' ++ wL cI cZ cJ ad o f' u') → va_S (fun q : Nat => s.heap.size ≤ q) s.heap H locs → lv_has ls 7 [(0, .ref b), (1, .ref (ad 0)), (2, .ref (am 0)), (3, .ref o), (4, .int i)] → W p l e room_1 s m #[Value.ref b] below meth c H locs (60 + (j + 1)) (5141 + 6 * (j + 1)) (lw_Z below #[Value.ref b] s) (F0 m 1764 ls [])) : W p l e room_1 s m #[Value.ref b] below meth c H locs (60 + j) (5141 + 6 * j) (lw_Z below #[Value.ref b] s) (F0 m 1213 ls []) := by
  obtain ⟨hx, hb, hr, hml, hown, hts0, hX, hbl, hlocks, hgv⟩ := id C0
  have hts : ∀ w ∈ Wall, w.before #[Value.ref b] s = true := fun w h => hts0 w (wall_tbl w h)
  have hA : ∀ q : Nat, s.heap.size ≤ q → (fun q : Nat => s.heap.size ≤ q) q := fun _ h => h
  have hbA : ¬ (fun q : Nat => s.heap.size ≤ q) b := Nat.not_le.mpr hbl
  obtain ⟨r, v', hc, hm, hrel⟩ := hsim
  refine lv_aload_n hx hb dL_law_1213 rfl (lv_at hl 1 rfl) ?_
  refine cc_iVF (As := []) (rest := []) (wr := (wM cI cZ am v ++ [(o, .inl (cJ, 1, .inr (.inl f)))])) ⟨hx, hb, hml, hown, hts⟩ (k_X9_pattern l D cI cZ ad u hc) (cwV 0 hts (gwV mw_359 mw_360 mw_361 mw_48 mw_362) rfl rfl rfl (by decide +kernel) ⟨(Nat.le_of_ble_eq_true rfl), (Nat.le_of_ble_eq_true rfl)⟩) (hK.sub [0, 1] rfl) hP hD hS hA hZ [25, 26, 27, 28, 29, 30, 31, 32, 33, 34, 35, 36, 37, 38, 39, 40, 41, 42, 43, 44, 45, 46, 47, 48, 49, 50, 51, 52, 53, 54, 55, 56, 57, 58, 59] [0, 1, 2, 3, 4, 5, 6, 7, 8, 9, 10, 11, 12, 13, 14, 15, 16, 17, 18, 19, 20, 21, 22, 23, 24] rfl rfl (by decide) rfl (by decide) (by decide) (ci := 9) (q0 := 0) rfl rfl rfl hl.1 rfl (Nat.le_of_ble_eq_true rfl) dL_law_1214 ⟨by show 60 + j ≤ 1087; omega, by show 5141 + 6 * j ≤ 13351; omega⟩ (fun H locs hP hD hS => ?_)
  replace hP : va_P D vwCl (wM cI cZ am v ++ wL cI cZ cJ ad o f u) H := hP
  replace hD : va_D (fun q : Nat => s.heap.size ≤ q) (wM cI cZ am v ++ wL cI cZ cJ ad o f u) := hD
  refine W.widen (k := 60 + (j + 1)) (n := 5141 + 6 * (j + 1)) (by omega) (by omega) ?_
  refine lv_aload_n hx hb dL_law_1217 rfl (lv_at hl 2 rfl) ?_
  refine cc_iVF (As := []) (rest := [.int r]) (wr := wL cI cZ cJ ad o f u) ⟨hx, hb, hml, hown, hts⟩ (k_X10_pattern l D cI cZ am v hm) (cwV 0 hts (gwV mw_1122 mw_1123 mw_1124 mw_59 mw_1125) rfl rfl rfl (by decide +kernel) ⟨(Nat.le_of_ble_eq_true rfl), (Nat.le_of_ble_eq_true rfl)⟩) (hK.sub [0, 1] rfl) hP hD hS hA hZ [0, 1, 2, 3, 4, 5, 6, 7, 8, 9, 10, 11, 12, 13, 14, 15, 16, 17, 18, 19, 20, 21, 22, 23] [24, 25, 26, 27, 28, 29, 30, 31, 32, 33, 34, 35, 36, 37, 38, 39, 40, 41, 42, 43, 44, 45, 46, 47, 48, 49, 50, 51, 52, 53, 54, 55, 56, 57, 58, 59] rfl rfl (by decide) rfl (by decide) (by decide) (ci := 10) (q0 := 0) rfl rfl rfl hl.1 rfl (Nat.le_of_ble_eq_true rfl) dL_law_1218 ⟨by show 60 + (j + 1) ≤ 1087; omega, by show 5141 + 6 * (j + 1) ≤ 13351; omega⟩ (fun H locs hP hD hS => ?_)
  replace hP : va_P D vwCl (wM cI cZ am v' ++ wL cI cZ cJ ad o f u) H := hP.sub [36, 37, 38, 39, 40, 41, 42, 43, 44, 45, 46, 47, 48, 49, 50, 51, 52, 53, 54, 55, 56, 57, 58, 59, 0, 1, 2, 3, 4, 5, 6, 7, 8, 9, 10, 11, 12, 13, 14, 15, 16, 17, 18, 19, 20, 21, 22, 23, 24, 25, 26, 27, 28, 29, 30, 31, 32, 33, 34, 35] rfl
  replace hD : va_D (fun q : Nat => s.heap.size ≤ q) (wM cI cZ am v' ++ wL cI cZ cJ ad o f u) := hD.sub [36, 37, 38, 39, 40, 41, 42, 43, 44, 45, 46, 47, 48, 49, 50, 51, 52, 53, 54, 55, 56, 57, 58, 59, 0, 1, 2, 3, 4, 5, 6, 7, 8, 9, 10, 11, 12, 13, 14, 15, 16, 17, 18, 19, 20, 21, 22, 23, 24, 25, 26, 27, 28, 29, 30, 31, 32, 33, 34, 35] (by decide) rfl
  refine lv_icmp_eq (tgt := 1764) hx hb dL_law_1221 (by decide) (fun _ => ?_) (fun c1 => absurd rfl c1)
  exact kk _ _ _ _ _ ls hrel hP hD hS (lv_sub hl [0, 1, 2, 3, 4] rfl)

set_option maxHeartbeats 4000000 in
set_option maxRecDepth 100000 in
theorem lc_way {p : Program} {l : Launch} {e : Env} {s : State} {m : MethodId} {below : List Frame} {meth : Method} {c : Code} {b L : Nat} {xs : Nat → Int32} (hl0 : l.stackTraces = false) (C0 : lw_At p s m meth c b L xs) (hZ : cst (fun q : Nat => s.heap.size ≤ q) s) {D : va_G} {cI cZ cJ : ClassId} (hK : va_K D vwCl [(cI, .int), (cZ, .boolean), (cJ, .long)] s) {Rel : GS → MS → Prop} {am ad : Nat → Nat} {o : Nat} {f : Nat → Int64} {u : GS} {v : MS} {i : Int32} {j : Nat} (hj : j ≤ 511) (hi : lin i L) {p1 : Int32} (hp1 : xs (i + 1).toNatClampNeg = p1) {p2 : Int32} (hp2 : xs (i + 2).toNatClampNeg = p2) (hsim : SI Rel (g_X9_way u p1 p2) (g_X10_way v p1 p2) [("java/lang/IndexOutOfBoundsException", 1)]) {H : Heap} {locs : List Loc} {ls : Array Slot} (hP : va_P D vwCl (wM cI cZ am v ++ wL cI cZ cJ ad o f u) H) (hD : va_D (fun q : Nat => s.heap.size ≤ q) (wM cI cZ am v ++ wL cI cZ cJ ad o f u)) (hS : va_S (fun q : Nat => s.heap.size ≤ q) s.heap H locs) (hl : lv_has ls 7 [(0, .ref b), (1, .ref (ad 0)), (2, .ref (am 0)), (3, .ref o), (4, .int i)]) (kk : ∀ (u' : GS) (v' : MS) (f' : Nat → Int64) (H : Heap) (locs : List Loc) (ls : Array Slot), Rel u' v' → va_P D vwCl (wM cI cZ am v' ++ wL cI cZ cJ ad o f' u') H → va_D (fun q : Nat => s.heap.size ≤ q) (wM cI cZ am v' ++ wL cI cZ cJ ad o f' u') → va_S (fun q : Nat => s.heap.size ≤ q) s.heap H locs → lv_has ls 7 [(0, .ref b), (1, .ref (ad 0)), (2, .ref (am 0)), (3, .ref o), (4, .int i)] → W p l e room_1 s m #[Value.ref b] below meth c H locs (60 + (j + 1)) (5141 + 6 * (j + 1)) (lw_Z below #[Value.ref b] s) (F0 m 1764 ls [])) : W p l e room_1 s m #[Value.ref b] below meth c H locs (60 + j) (5141 + 6 * j) (lw_Z below #[Value.ref b] s) (F0 m 1226 ls []) := by
  obtain ⟨hx, hb, hr, hml, hown, hts0, hX, hbl, hlocks, hgv⟩ := id C0
  have hts : ∀ w ∈ Wall, w.before #[Value.ref b] s = true := fun w h => hts0 w (wall_tbl w h)
  have hA : ∀ q : Nat, s.heap.size ≤ q → (fun q : Nat => s.heap.size ≤ q) q := fun _ h => h
  have hbA : ¬ (fun q : Nat => s.heap.size ≤ q) b := Nat.not_le.mpr hbl
  obtain ⟨-, hi1, hi2, hi3, hi4, hi5⟩ := hi
  rcases hsim with ⟨r, u', v', hc, hm, ht, hrel⟩ | ⟨q, u', b9, v', hq, hc, hm, ht, hrel⟩
  · refine lv_aload_n hx hb dL_law_1226 rfl (lv_at hl 1 rfl) ?_
    refine lv_aload_n hx hb dL_law_1227 rfl (lv_at hl 0 rfl) ?_
    refine lv_iload hx hb dL_law_1228 (lv_at hl 4 rfl) ?_
    refine lv_iconst (v := 1) hx hb dL_law_1230 (by decide) ?_
    refine lv_iadd hx hb dL_law_1231 ?_
    refine va_sld hx hb hX hbl hbA hS hi1 dL_law_1232 ?_
    refine lv_topn hp1 ?_
    refine lv_aload_n hx hb dL_law_1233 rfl (lv_at hl 0 rfl) ?_
    refine lv_iload hx hb dL_law_1234 (lv_at hl 4 rfl) ?_
    refine lv_iconst (v := 2) hx hb dL_law_1236 (by decide) ?_
    refine lv_iadd hx hb dL_law_1237 ?_
    refine va_sld hx hb hX hbl hbA hS hi2 dL_law_1238 ?_
    refine lv_topn hp2 ?_
    refine lv_aload_n hx hb dL_law_1239 rfl (lv_at hl 3 rfl) ?_
    refine cc_iSHF (As := [.ref (ad 0), .int p1, .int p2, .ref o]) (rest := []) (wr := wM cI cZ am v) ⟨hx, hb, hml, hown, hts⟩ (k_L_way l D cI cZ cJ ad o f u p1 p2 hc) (vx_cwSW 4 hts (gwSH mw_740 mw_741 mw_47 mw_742) rfl rfl rfl (by decide +kernel) ⟨(Nat.le_of_ble_eq_true rfl), (Nat.le_of_ble_eq_true rfl)⟩) hK hP hD hS hA hZ [24, 25, 26, 27, 28, 29, 30, 31, 32, 33, 34, 35, 36, 37, 38, 39, 40, 41, 42, 43, 44, 45, 46, 47, 48, 49, 50, 51, 52, 53, 54, 55, 56, 57, 58, 59] [0, 1, 2, 3, 4, 5, 6, 7, 8, 9, 10, 11, 12, 13, 14, 15, 16, 17, 18, 19, 20, 21, 22, 23] rfl rfl (by decide) rfl (by decide) (by decide) rfl hl.1 rfl (Nat.le_of_ble_eq_true rfl) dL_law_1240 ⟨by show 60 + j ≤ 1087; omega, by show 5141 + 6 * j ≤ 13351; omega⟩ (fun H locs hP hD hS => ?_)
    replace hP : va_P D vwCl (wM cI cZ am v ++ wL cI cZ cJ ad o (vp_updL f (0 : Int32).toNatClampNeg r.toInt64) u') H := hP
    replace hD : va_D (fun q : Nat => s.heap.size ≤ q) (wM cI cZ am v ++ wL cI cZ cJ ad o (vp_updL f (0 : Int32).toNatClampNeg r.toInt64) u') := hD
    refine W.widen (k := 60 + (j + 1)) (n := 5141 + 6 * (j + 1)) (by omega) (by omega) ?_
    refine lv_istore (lv' := [(5, .int 0), (0, .ref b), (1, .ref (ad 0)), (2, .ref (am 0)), (3, .ref o), (4, .int i)]) hx hb dL_law_1243 hl (by decide) rfl (fun ls hl => ?_)
    refine lv_aload_n hx hb dL_law_1245 rfl (lv_at hl 3 rfl) ?_
    refine lv_aload_n hx hb dL_law_1246 rfl (lv_at hl 1 rfl) ?_
    refine lv_iload hx hb dL_law_1247 (lv_at hl 5 rfl) ?_
    refine lv_iconst (v := 1) hx hb dL_law_1249 (by decide) ?_
    refine lv_iadd hx hb dL_law_1250 ?_
    refine va_sld hx hb hX hbl hbA hS hi1 dL_law_1251 ?_
    refine lv_topn hp1 ?_
    refine lv_aload_n hx hb dL_law_1252 rfl (lv_at hl 1 rfl) ?_
    refine lv_iload hx hb dL_law_1253 (lv_at hl 5 rfl) ?_
    refine lv_iconst (v := 2) hx hb dL_law_1255 (by decide) ?_
    refine lv_iadd hx hb dL_law_1256 ?_
    refine va_sld hx hb hX hbl hbA hS hi2 dL_law_1257 ?_
    refine lv_topn hp2 ?_
    refine cc_iVF (As := [.int p1, .int p2]) (rest := []) (wr := wL cI cZ cJ ad o (vp_updL f (0 : Int32).toNatClampNeg r.toInt64) u') ⟨hx, hb, hml, hown, hts⟩ (k_X10_way l D cI cZ am v p1 p2 hm) (cwV 2 hts (gwV mw_1126 mw_1127 mw_1128 mw_59 mw_1129) rfl rfl rfl (by decide +kernel) ⟨(Nat.le_of_ble_eq_true rfl), (Nat.le_of_ble_eq_true rfl)⟩) (hK.sub [0, 1] rfl) hP hD hS hA hZ [0, 1, 2, 3, 4, 5, 6, 7, 8, 9, 10, 11, 12, 13, 14, 15, 16, 17, 18, 19, 20, 21, 22, 23] [24, 25, 26, 27, 28, 29, 30, 31, 32, 33, 34, 35, 36, 37, 38, 39, 40, 41, 42, 43, 44, 45, 46, 47, 48, 49, 50, 51, 52, 53, 54, 55, 56, 57, 58, 59] rfl rfl (by decide) rfl (by decide) (by decide) (ci := 10) (q0 := 0) rfl rfl rfl hl.1 rfl (Nat.le_of_ble_eq_true rfl) dL_law_1258 ⟨by show 60 + (j + 1) ≤ 1087; omega, by show 5141 + 6 * (j + 1) ≤ 13351; omega⟩ (fun H locs hP hD hS => ?_)
    replace hP : va_P D vwCl (wM cI cZ am v' ++ wL cI cZ cJ ad o (vp_updL f (0 : Int32).toNatClampNeg r.toInt64) u') H := hP.sub [36, 37, 38, 39, 40, 41, 42, 43, 44, 45, 46, 47, 48, 49, 50, 51, 52, 53, 54, 55, 56, 57, 58, 59, 0, 1, 2, 3, 4, 5, 6, 7, 8, 9, 10, 11, 12, 13, 14, 15, 16, 17, 18, 19, 20, 21, 22, 23, 24, 25, 26, 27, 28, 29, 30, 31, 32, 33, 34, 35] rfl
    replace hD : va_D (fun q : Nat => s.heap.size ≤ q) (wM cI cZ am v' ++ wL cI cZ cJ ad o (vp_updL f (0 : Int32).toNatClampNeg r.toInt64) u') := hD.sub [36, 37, 38, 39, 40, 41, 42, 43, 44, 45, 46, 47, 48, 49, 50, 51, 52, 53, 54, 55, 56, 57, 58, 59, 0, 1, 2, 3, 4, 5, 6, 7, 8, 9, 10, 11, 12, 13, 14, 15, 16, 17, 18, 19, 20, 21, 22, 23, 24, 25, 26, 27, 28, 29, 30, 31, 32, 33, 34, 35] (by decide) rfl
    refine lv_istore (lv' := [(6, .int r), (5, .int 0), (0, .ref b), (1, .ref (ad 0)), (2, .ref (am 0)), (3, .ref o), (4, .int i)]) hx hb dL_law_1261 hl (by decide) rfl (fun ls hl => ?_)
    refine lv_aload_n hx hb dL_law_1263 rfl (lv_at hl 4 rfl) ?_
    refine cc_iVF (As := []) (rest := []) (wr := wL cI cZ cJ ad o (vp_updL f (0 : Int32).toNatClampNeg r.toInt64) u') ⟨hx, hb, hml, hown, hts⟩ (k_X10_thrown l D cI cZ am v' rfl) (cwV 0 hts (gwV mw_968 mw_969 mw_970 mw_59 mw_971) rfl rfl rfl (by decide +kernel) ⟨(Nat.le_of_ble_eq_true rfl), (Nat.le_of_ble_eq_true rfl)⟩) (hK.sub [0, 1] rfl) hP hD hS hA hZ [0, 1, 2, 3, 4, 5, 6, 7, 8, 9, 10, 11, 12, 13, 14, 15, 16, 17, 18, 19, 20, 21, 22, 23] [24, 25, 26, 27, 28, 29, 30, 31, 32, 33, 34, 35, 36, 37, 38, 39, 40, 41, 42, 43, 44, 45, 46, 47, 48, 49, 50, 51, 52, 53, 54, 55, 56, 57, 58, 59] rfl rfl (by decide) rfl (by decide) (by decide) (ci := 10) (q0 := 0) rfl rfl rfl hl.1 rfl (Nat.le_of_ble_eq_true rfl) dL_law_1264 ⟨by show 60 + (j + 1) ≤ 1087; omega, by show 5141 + 6 * (j + 1) ≤ 13351; omega⟩ (fun H locs hP hD hS => ?_)
    replace hP : va_P D vwCl (wM cI cZ am v' ++ wL cI cZ cJ ad o (vp_updL f (0 : Int32).toNatClampNeg r.toInt64) u') H := hP.sub [36, 37, 38, 39, 40, 41, 42, 43, 44, 45, 46, 47, 48, 49, 50, 51, 52, 53, 54, 55, 56, 57, 58, 59, 0, 1, 2, 3, 4, 5, 6, 7, 8, 9, 10, 11, 12, 13, 14, 15, 16, 17, 18, 19, 20, 21, 22, 23, 24, 25, 26, 27, 28, 29, 30, 31, 32, 33, 34, 35] rfl
    replace hD : va_D (fun q : Nat => s.heap.size ≤ q) (wM cI cZ am v' ++ wL cI cZ cJ ad o (vp_updL f (0 : Int32).toNatClampNeg r.toInt64) u') := hD.sub [36, 37, 38, 39, 40, 41, 42, 43, 44, 45, 46, 47, 48, 49, 50, 51, 52, 53, 54, 55, 56, 57, 58, 59, 0, 1, 2, 3, 4, 5, 6, 7, 8, 9, 10, 11, 12, 13, 14, 15, 16, 17, 18, 19, 20, 21, 22, 23, 24, 25, 26, 27, 28, 29, 30, 31, 32, 33, 34, 35] (by decide) rfl
    refine lv_iload hx hb dL_law_1267 (lv_at hl 1 rfl) ?_
    refine lv_icmp_eq (tgt := 1274) hx hb dL_law_1269 (by decide) (fun _ => ?_) (fun c1 => absurd ht c1)
    refine lv_iload hx hb dL_law_1274 (lv_at hl 1 rfl) ?_
    refine lv_if_ne (tgt := 1291) hx hb dL_law_1276 (by decide) (fun c1 => absurd rfl c1) (fun _ => ?_)
    refine lv_aload_n hx hb dL_law_1279 rfl (lv_at hl 5 rfl) ?_
    refine lv_iconst (v := 0) hx hb dL_law_1280 (by decide) ?_
    refine va_lald (D := D) hx hb hK hP 24 2 rfl rfl (by unfold vp_in; decide) dL_law_1281 ?_
    refine lv_iload hx hb dL_law_1282 (lv_at hl 0 rfl) ?_
    refine lv_i2l (v := r.toInt64) hx hb dL_law_1284 rfl ?_
    refine W.lcmp hx hb dL_law_1285 ?_
    refine lv_if_eq (tgt := 1291) hx hb dL_law_1286 (by decide) (fun _ => ?_) (fun c2 => absurd (by simp [lg_cmp, vp_updL]) c2)
    refine lv_goto (tgt := 1764) hx hb dL_law_1291 (by decide) ?_
    exact kk _ _ _ _ _ ls hrel hP hD hS (lv_sub hl [2, 3, 4, 5, 6] rfl)
  · rcases List.mem_cons.mp hq with rfl | hq
    · refine lv_aload_n hx hb dL_law_1226 rfl (lv_at hl 1 rfl) ?_
      refine lv_aload_n hx hb dL_law_1227 rfl (lv_at hl 0 rfl) ?_
      refine lv_iload hx hb dL_law_1228 (lv_at hl 4 rfl) ?_
      refine lv_iconst (v := 1) hx hb dL_law_1230 (by decide) ?_
      refine lv_iadd hx hb dL_law_1231 ?_
      refine va_sld hx hb hX hbl hbA hS hi1 dL_law_1232 ?_
      refine lv_topn hp1 ?_
      refine lv_aload_n hx hb dL_law_1233 rfl (lv_at hl 0 rfl) ?_
      refine lv_iload hx hb dL_law_1234 (lv_at hl 4 rfl) ?_
      refine lv_iconst (v := 2) hx hb dL_law_1236 (by decide) ?_
      refine lv_iadd hx hb dL_law_1237 ?_
      refine va_sld hx hb hX hbl hbA hS hi2 dL_law_1238 ?_
      refine lv_topn hp2 ?_
      refine lv_aload_n hx hb dL_law_1239 rfl (lv_at hl 3 rfl) ?_
      refine cc_iSHF (As := [.ref (ad 0), .int p1, .int p2, .ref o]) (rest := []) (wr := wM cI cZ am v) ⟨hx, hb, hml, hown, hts⟩ (kx1_L_way l hl0 D cI cZ cJ ad o f u p1 p2 hc) (vx_cwSW 4 hts (gwSH mw_740 mw_741 mw_47 mw_742) rfl rfl rfl (by decide +kernel) ⟨(Nat.le_of_ble_eq_true rfl), (Nat.le_of_ble_eq_true rfl)⟩) hK hP hD hS hA hZ [24, 25, 26, 27, 28, 29, 30, 31, 32, 33, 34, 35, 36, 37, 38, 39, 40, 41, 42, 43, 44, 45, 46, 47, 48, 49, 50, 51, 52, 53, 54, 55, 56, 57, 58, 59] [0, 1, 2, 3, 4, 5, 6, 7, 8, 9, 10, 11, 12, 13, 14, 15, 16, 17, 18, 19, 20, 21, 22, 23] rfl rfl (by decide) rfl (by decide) (by decide) rfl hl.1 rfl (Nat.le_of_ble_eq_true rfl) dL_law_1240 ⟨by show 60 + j + 1 ≤ 1087; omega, by show 5141 + 6 * j + 6 ≤ 13351; omega⟩ (fun H locs hP hD hS => ?_)
      replace hP : va_P D vwCl (wM cI cZ am v ++ wL cI cZ cJ ad o f u') H := hP
      replace hD : va_D (fun q : Nat => s.heap.size ≤ q) (wM cI cZ am v ++ wL cI cZ cJ ad o f u') := hD
      refine W.widen (k := 60 + (j + 1)) (n := 5141 + 6 * (j + 1)) (by omega) (by omega) ?_
      refine lv_istore (lv' := [(5, .int 1), (0, .ref b), (1, .ref (ad 0)), (2, .ref (am 0)), (3, .ref o), (4, .int i)]) hx hb dL_law_1243 hl (by decide) rfl (fun ls hl => ?_)
      refine lv_aload_n hx hb dL_law_1245 rfl (lv_at hl 3 rfl) ?_
      refine lv_aload_n hx hb dL_law_1246 rfl (lv_at hl 1 rfl) ?_
      refine lv_iload hx hb dL_law_1247 (lv_at hl 5 rfl) ?_
      refine lv_iconst (v := 1) hx hb dL_law_1249 (by decide) ?_
      refine lv_iadd hx hb dL_law_1250 ?_
      refine va_sld hx hb hX hbl hbA hS hi1 dL_law_1251 ?_
      refine lv_topn hp1 ?_
      refine lv_aload_n hx hb dL_law_1252 rfl (lv_at hl 1 rfl) ?_
      refine lv_iload hx hb dL_law_1253 (lv_at hl 5 rfl) ?_
      refine lv_iconst (v := 2) hx hb dL_law_1255 (by decide) ?_
      refine lv_iadd hx hb dL_law_1256 ?_
      refine va_sld hx hb hX hbl hbA hS hi2 dL_law_1257 ?_
      refine lv_topn hp2 ?_
      refine cc_iVF (As := [.int p1, .int p2]) (rest := []) (wr := wL cI cZ cJ ad o f u') ⟨hx, hb, hml, hown, hts⟩ (k_X10_way l D cI cZ am v p1 p2 hm) (cwV 2 hts (gwV mw_1126 mw_1127 mw_1128 mw_59 mw_1129) rfl rfl rfl (by decide +kernel) ⟨(Nat.le_of_ble_eq_true rfl), (Nat.le_of_ble_eq_true rfl)⟩) (hK.sub [0, 1] rfl) hP hD hS hA hZ [0, 1, 2, 3, 4, 5, 6, 7, 8, 9, 10, 11, 12, 13, 14, 15, 16, 17, 18, 19, 20, 21, 22, 23] [24, 25, 26, 27, 28, 29, 30, 31, 32, 33, 34, 35, 36, 37, 38, 39, 40, 41, 42, 43, 44, 45, 46, 47, 48, 49, 50, 51, 52, 53, 54, 55, 56, 57, 58, 59] rfl rfl (by decide) rfl (by decide) (by decide) (ci := 10) (q0 := 0) rfl rfl rfl hl.1 rfl (Nat.le_of_ble_eq_true rfl) dL_law_1258 ⟨by show 60 + (j + 1) ≤ 1087; omega, by show 5141 + 6 * (j + 1) ≤ 13351; omega⟩ (fun H locs hP hD hS => ?_)
      replace hP : va_P D vwCl (wM cI cZ am v' ++ wL cI cZ cJ ad o f u') H := hP.sub [36, 37, 38, 39, 40, 41, 42, 43, 44, 45, 46, 47, 48, 49, 50, 51, 52, 53, 54, 55, 56, 57, 58, 59, 0, 1, 2, 3, 4, 5, 6, 7, 8, 9, 10, 11, 12, 13, 14, 15, 16, 17, 18, 19, 20, 21, 22, 23, 24, 25, 26, 27, 28, 29, 30, 31, 32, 33, 34, 35] rfl
      replace hD : va_D (fun q : Nat => s.heap.size ≤ q) (wM cI cZ am v' ++ wL cI cZ cJ ad o f u') := hD.sub [36, 37, 38, 39, 40, 41, 42, 43, 44, 45, 46, 47, 48, 49, 50, 51, 52, 53, 54, 55, 56, 57, 58, 59, 0, 1, 2, 3, 4, 5, 6, 7, 8, 9, 10, 11, 12, 13, 14, 15, 16, 17, 18, 19, 20, 21, 22, 23, 24, 25, 26, 27, 28, 29, 30, 31, 32, 33, 34, 35] (by decide) rfl
      refine lv_istore (lv' := [(6, .int b9), (5, .int 1), (0, .ref b), (1, .ref (ad 0)), (2, .ref (am 0)), (3, .ref o), (4, .int i)]) hx hb dL_law_1261 hl (by decide) rfl (fun ls hl => ?_)
      refine lv_aload_n hx hb dL_law_1263 rfl (lv_at hl 4 rfl) ?_
      refine cc_iVF (As := []) (rest := []) (wr := wL cI cZ cJ ad o f u') ⟨hx, hb, hml, hown, hts⟩ (k_X10_thrown l D cI cZ am v' rfl) (cwV 0 hts (gwV mw_968 mw_969 mw_970 mw_59 mw_971) rfl rfl rfl (by decide +kernel) ⟨(Nat.le_of_ble_eq_true rfl), (Nat.le_of_ble_eq_true rfl)⟩) (hK.sub [0, 1] rfl) hP hD hS hA hZ [0, 1, 2, 3, 4, 5, 6, 7, 8, 9, 10, 11, 12, 13, 14, 15, 16, 17, 18, 19, 20, 21, 22, 23] [24, 25, 26, 27, 28, 29, 30, 31, 32, 33, 34, 35, 36, 37, 38, 39, 40, 41, 42, 43, 44, 45, 46, 47, 48, 49, 50, 51, 52, 53, 54, 55, 56, 57, 58, 59] rfl rfl (by decide) rfl (by decide) (by decide) (ci := 10) (q0 := 0) rfl rfl rfl hl.1 rfl (Nat.le_of_ble_eq_true rfl) dL_law_1264 ⟨by show 60 + (j + 1) ≤ 1087; omega, by show 5141 + 6 * (j + 1) ≤ 13351; omega⟩ (fun H locs hP hD hS => ?_)
      replace hP : va_P D vwCl (wM cI cZ am v' ++ wL cI cZ cJ ad o f u') H := hP.sub [36, 37, 38, 39, 40, 41, 42, 43, 44, 45, 46, 47, 48, 49, 50, 51, 52, 53, 54, 55, 56, 57, 58, 59, 0, 1, 2, 3, 4, 5, 6, 7, 8, 9, 10, 11, 12, 13, 14, 15, 16, 17, 18, 19, 20, 21, 22, 23, 24, 25, 26, 27, 28, 29, 30, 31, 32, 33, 34, 35] rfl
      replace hD : va_D (fun q : Nat => s.heap.size ≤ q) (wM cI cZ am v' ++ wL cI cZ cJ ad o f u') := hD.sub [36, 37, 38, 39, 40, 41, 42, 43, 44, 45, 46, 47, 48, 49, 50, 51, 52, 53, 54, 55, 56, 57, 58, 59, 0, 1, 2, 3, 4, 5, 6, 7, 8, 9, 10, 11, 12, 13, 14, 15, 16, 17, 18, 19, 20, 21, 22, 23, 24, 25, 26, 27, 28, 29, 30, 31, 32, 33, 34, 35] (by decide) rfl
      refine lv_iload hx hb dL_law_1267 (lv_at hl 1 rfl) ?_
      refine lv_icmp_eq (tgt := 1274) hx hb dL_law_1269 (by decide) (fun _ => ?_) (fun c1 => absurd ht c1)
      refine lv_iload hx hb dL_law_1274 (lv_at hl 1 rfl) ?_
      refine lv_if_ne (tgt := 1291) hx hb dL_law_1276 (by decide) (fun _ => ?_) (fun c1 => absurd c1 (by decide))
      refine lv_goto (tgt := 1764) hx hb dL_law_1291 (by decide) ?_
      exact kk _ _ _ _ _ ls hrel hP hD hS (lv_sub hl [2, 3, 4, 5, 6] rfl)
    · exact absurd hq List.not_mem_nil

set_option maxHeartbeats 4000000 in
set_option maxRecDepth 100000 in
theorem lc_send {p : Program} {l : Launch} {e : Env} {s : State} {m : MethodId} {below : List Frame} {meth : Method} {c : Code} {b L : Nat} {xs : Nat → Int32} (hl0 : l.stackTraces = false) (C0 : lw_At p s m meth c b L xs) (hZ : cst (fun q : Nat => s.heap.size ≤ q) s) {D : va_G} {cI cZ cJ : ClassId} (hK : va_K D vwCl [(cI, .int), (cZ, .boolean), (cJ, .long)] s) {Rel : GS → MS → Prop} {am ad : Nat → Nat} {o : Nat} {f : Nat → Int64} {u : GS} {v : MS} {i : Int32} {j : Nat} (hj : j ≤ 511) (hi : lin i L) {p1 : Int32} (hp1 : xs (i + 1).toNatClampNeg = p1) {p2 : Int32} (hp2 : xs (i + 2).toNatClampNeg = p2) (hsim : SI Rel (g_X9_send u p1 p2) (g_X10_send v p1 p2) [("java/lang/IndexOutOfBoundsException", 1), ("java/lang/IllegalStateException", 2)]) {H : Heap} {locs : List Loc} {ls : Array Slot} (hP : va_P D vwCl (wM cI cZ am v ++ wL cI cZ cJ ad o f u) H) (hD : va_D (fun q : Nat => s.heap.size ≤ q) (wM cI cZ am v ++ wL cI cZ cJ ad o f u)) (hS : va_S (fun q : Nat => s.heap.size ≤ q) s.heap H locs) (hl : lv_has ls 7 [(0, .ref b), (1, .ref (ad 0)), (2, .ref (am 0)), (3, .ref o), (4, .int i)]) (kk : ∀ (u' : GS) (v' : MS) (f' : Nat → Int64) (H : Heap) (locs : List Loc) (ls : Array Slot), Rel u' v' → va_P D vwCl (wM cI cZ am v' ++ wL cI cZ cJ ad o f' u') H → va_D (fun q : Nat => s.heap.size ≤ q) (wM cI cZ am v' ++ wL cI cZ cJ ad o f' u') → va_S (fun q : Nat => s.heap.size ≤ q) s.heap H locs → lv_has ls 7 [(0, .ref b), (1, .ref (ad 0)), (2, .ref (am 0)), (3, .ref o), (4, .int i)] → W p l e room_1 s m #[Value.ref b] below meth c H locs (60 + (j + 1)) (5141 + 6 * (j + 1)) (lw_Z below #[Value.ref b] s) (F0 m 1764 ls [])) : W p l e room_1 s m #[Value.ref b] below meth c H locs (60 + j) (5141 + 6 * j) (lw_Z below #[Value.ref b] s) (F0 m 1294 ls []) := by
  obtain ⟨hx, hb, hr, hml, hown, hts0, hX, hbl, hlocks, hgv⟩ := id C0
  have hts : ∀ w ∈ Wall, w.before #[Value.ref b] s = true := fun w h => hts0 w (wall_tbl w h)
  have hA : ∀ q : Nat, s.heap.size ≤ q → (fun q : Nat => s.heap.size ≤ q) q := fun _ h => h
  have hbA : ¬ (fun q : Nat => s.heap.size ≤ q) b := Nat.not_le.mpr hbl
  obtain ⟨-, hi1, hi2, hi3, hi4, hi5⟩ := hi
  rcases hsim with ⟨r, u', v', hc, hm, ht, hrel⟩ | ⟨q, u', b9, v', hq, hc, hm, ht, hrel⟩
  · refine lv_aload_n hx hb dL_law_1294 rfl (lv_at hl 1 rfl) ?_
    refine lv_aload_n hx hb dL_law_1295 rfl (lv_at hl 0 rfl) ?_
    refine lv_iload hx hb dL_law_1296 (lv_at hl 4 rfl) ?_
    refine lv_iconst (v := 1) hx hb dL_law_1298 (by decide) ?_
    refine lv_iadd hx hb dL_law_1299 ?_
    refine va_sld hx hb hX hbl hbA hS hi1 dL_law_1300 ?_
    refine lv_topn hp1 ?_
    refine lv_aload_n hx hb dL_law_1301 rfl (lv_at hl 0 rfl) ?_
    refine lv_iload hx hb dL_law_1302 (lv_at hl 4 rfl) ?_
    refine lv_iconst (v := 2) hx hb dL_law_1304 (by decide) ?_
    refine lv_iadd hx hb dL_law_1305 ?_
    refine va_sld hx hb hX hbl hbA hS hi2 dL_law_1306 ?_
    refine lv_topn hp2 ?_
    refine lv_aload_n hx hb dL_law_1307 rfl (lv_at hl 3 rfl) ?_
    refine cc_iSHF (As := [.ref (ad 0), .int p1, .int p2, .ref o]) (rest := []) (wr := wM cI cZ am v) ⟨hx, hb, hml, hown, hts⟩ (k_L_send l D cI cZ cJ ad o f u p1 p2 hc) (vx_cwSW 4 hts (gwSH mw_763 mw_764 mw_47 mw_765) rfl rfl rfl (by decide +kernel) ⟨(Nat.le_of_ble_eq_true rfl), (Nat.le_of_ble_eq_true rfl)⟩) hK hP hD hS hA hZ [24, 25, 26, 27, 28, 29, 30, 31, 32, 33, 34, 35, 36, 37, 38, 39, 40, 41, 42, 43, 44, 45, 46, 47, 48, 49, 50, 51, 52, 53, 54, 55, 56, 57, 58, 59] [0, 1, 2, 3, 4, 5, 6, 7, 8, 9, 10, 11, 12, 13, 14, 15, 16, 17, 18, 19, 20, 21, 22, 23] rfl rfl (by decide) rfl (by decide) (by decide) rfl hl.1 rfl (Nat.le_of_ble_eq_true rfl) dL_law_1308 ⟨by show 60 + j ≤ 1087; omega, by show 5141 + 6 * j ≤ 13351; omega⟩ (fun H locs hP hD hS => ?_)
    replace hP : va_P D vwCl (wM cI cZ am v ++ wL cI cZ cJ ad o (vp_updL f (0 : Int32).toNatClampNeg r.toInt64) u') H := hP
    replace hD : va_D (fun q : Nat => s.heap.size ≤ q) (wM cI cZ am v ++ wL cI cZ cJ ad o (vp_updL f (0 : Int32).toNatClampNeg r.toInt64) u') := hD
    refine W.widen (k := 60 + (j + 1)) (n := 5141 + 6 * (j + 1)) (by omega) (by omega) ?_
    refine lv_istore (lv' := [(5, .int 0), (0, .ref b), (1, .ref (ad 0)), (2, .ref (am 0)), (3, .ref o), (4, .int i)]) hx hb dL_law_1311 hl (by decide) rfl (fun ls hl => ?_)
    refine lv_aload_n hx hb dL_law_1313 rfl (lv_at hl 3 rfl) ?_
    refine lv_aload_n hx hb dL_law_1314 rfl (lv_at hl 1 rfl) ?_
    refine lv_iload hx hb dL_law_1315 (lv_at hl 5 rfl) ?_
    refine lv_iconst (v := 1) hx hb dL_law_1317 (by decide) ?_
    refine lv_iadd hx hb dL_law_1318 ?_
    refine va_sld hx hb hX hbl hbA hS hi1 dL_law_1319 ?_
    refine lv_topn hp1 ?_
    refine lv_aload_n hx hb dL_law_1320 rfl (lv_at hl 1 rfl) ?_
    refine lv_iload hx hb dL_law_1321 (lv_at hl 5 rfl) ?_
    refine lv_iconst (v := 2) hx hb dL_law_1323 (by decide) ?_
    refine lv_iadd hx hb dL_law_1324 ?_
    refine va_sld hx hb hX hbl hbA hS hi2 dL_law_1325 ?_
    refine lv_topn hp2 ?_
    refine cc_iVF (As := [.int p1, .int p2]) (rest := []) (wr := wL cI cZ cJ ad o (vp_updL f (0 : Int32).toNatClampNeg r.toInt64) u') ⟨hx, hb, hml, hown, hts⟩ (k_X10_send l D cI cZ am v p1 p2 hm) (cwV 2 hts (gwV mw_1137 mw_1138 mw_1139 mw_59 mw_1140) rfl rfl rfl (by decide +kernel) ⟨(Nat.le_of_ble_eq_true rfl), (Nat.le_of_ble_eq_true rfl)⟩) (hK.sub [0, 1] rfl) hP hD hS hA hZ [0, 1, 2, 3, 4, 5, 6, 7, 8, 9, 10, 11, 12, 13, 14, 15, 16, 17, 18, 19, 20, 21, 22, 23] [24, 25, 26, 27, 28, 29, 30, 31, 32, 33, 34, 35, 36, 37, 38, 39, 40, 41, 42, 43, 44, 45, 46, 47, 48, 49, 50, 51, 52, 53, 54, 55, 56, 57, 58, 59] rfl rfl (by decide) rfl (by decide) (by decide) (ci := 10) (q0 := 0) rfl rfl rfl hl.1 rfl (Nat.le_of_ble_eq_true rfl) dL_law_1326 ⟨by show 60 + (j + 1) ≤ 1087; omega, by show 5141 + 6 * (j + 1) ≤ 13351; omega⟩ (fun H locs hP hD hS => ?_)
    replace hP : va_P D vwCl (wM cI cZ am v' ++ wL cI cZ cJ ad o (vp_updL f (0 : Int32).toNatClampNeg r.toInt64) u') H := hP.sub [36, 37, 38, 39, 40, 41, 42, 43, 44, 45, 46, 47, 48, 49, 50, 51, 52, 53, 54, 55, 56, 57, 58, 59, 0, 1, 2, 3, 4, 5, 6, 7, 8, 9, 10, 11, 12, 13, 14, 15, 16, 17, 18, 19, 20, 21, 22, 23, 24, 25, 26, 27, 28, 29, 30, 31, 32, 33, 34, 35] rfl
    replace hD : va_D (fun q : Nat => s.heap.size ≤ q) (wM cI cZ am v' ++ wL cI cZ cJ ad o (vp_updL f (0 : Int32).toNatClampNeg r.toInt64) u') := hD.sub [36, 37, 38, 39, 40, 41, 42, 43, 44, 45, 46, 47, 48, 49, 50, 51, 52, 53, 54, 55, 56, 57, 58, 59, 0, 1, 2, 3, 4, 5, 6, 7, 8, 9, 10, 11, 12, 13, 14, 15, 16, 17, 18, 19, 20, 21, 22, 23, 24, 25, 26, 27, 28, 29, 30, 31, 32, 33, 34, 35] (by decide) rfl
    refine lv_istore (lv' := [(6, .int r), (5, .int 0), (0, .ref b), (1, .ref (ad 0)), (2, .ref (am 0)), (3, .ref o), (4, .int i)]) hx hb dL_law_1329 hl (by decide) rfl (fun ls hl => ?_)
    refine lv_aload_n hx hb dL_law_1331 rfl (lv_at hl 4 rfl) ?_
    refine cc_iVF (As := []) (rest := []) (wr := wL cI cZ cJ ad o (vp_updL f (0 : Int32).toNatClampNeg r.toInt64) u') ⟨hx, hb, hml, hown, hts⟩ (k_X10_thrown l D cI cZ am v' rfl) (cwV 0 hts (gwV mw_968 mw_969 mw_970 mw_59 mw_971) rfl rfl rfl (by decide +kernel) ⟨(Nat.le_of_ble_eq_true rfl), (Nat.le_of_ble_eq_true rfl)⟩) (hK.sub [0, 1] rfl) hP hD hS hA hZ [0, 1, 2, 3, 4, 5, 6, 7, 8, 9, 10, 11, 12, 13, 14, 15, 16, 17, 18, 19, 20, 21, 22, 23] [24, 25, 26, 27, 28, 29, 30, 31, 32, 33, 34, 35, 36, 37, 38, 39, 40, 41, 42, 43, 44, 45, 46, 47, 48, 49, 50, 51, 52, 53, 54, 55, 56, 57, 58, 59] rfl rfl (by decide) rfl (by decide) (by decide) (ci := 10) (q0 := 0) rfl rfl rfl hl.1 rfl (Nat.le_of_ble_eq_true rfl) dL_law_1332 ⟨by show 60 + (j + 1) ≤ 1087; omega, by show 5141 + 6 * (j + 1) ≤ 13351; omega⟩ (fun H locs hP hD hS => ?_)
    replace hP : va_P D vwCl (wM cI cZ am v' ++ wL cI cZ cJ ad o (vp_updL f (0 : Int32).toNatClampNeg r.toInt64) u') H := hP.sub [36, 37, 38, 39, 40, 41, 42, 43, 44, 45, 46, 47, 48, 49, 50, 51, 52, 53, 54, 55, 56, 57, 58, 59, 0, 1, 2, 3, 4, 5, 6, 7, 8, 9, 10, 11, 12, 13, 14, 15, 16, 17, 18, 19, 20, 21, 22, 23, 24, 25, 26, 27, 28, 29, 30, 31, 32, 33, 34, 35] rfl
    replace hD : va_D (fun q : Nat => s.heap.size ≤ q) (wM cI cZ am v' ++ wL cI cZ cJ ad o (vp_updL f (0 : Int32).toNatClampNeg r.toInt64) u') := hD.sub [36, 37, 38, 39, 40, 41, 42, 43, 44, 45, 46, 47, 48, 49, 50, 51, 52, 53, 54, 55, 56, 57, 58, 59, 0, 1, 2, 3, 4, 5, 6, 7, 8, 9, 10, 11, 12, 13, 14, 15, 16, 17, 18, 19, 20, 21, 22, 23, 24, 25, 26, 27, 28, 29, 30, 31, 32, 33, 34, 35] (by decide) rfl
    refine lv_iload hx hb dL_law_1335 (lv_at hl 1 rfl) ?_
    refine lv_icmp_eq (tgt := 1342) hx hb dL_law_1337 (by decide) (fun _ => ?_) (fun c1 => absurd ht c1)
    refine lv_iload hx hb dL_law_1342 (lv_at hl 1 rfl) ?_
    refine lv_if_ne (tgt := 1359) hx hb dL_law_1344 (by decide) (fun c1 => absurd rfl c1) (fun _ => ?_)
    refine lv_aload_n hx hb dL_law_1347 rfl (lv_at hl 5 rfl) ?_
    refine lv_iconst (v := 0) hx hb dL_law_1348 (by decide) ?_
    refine va_lald (D := D) hx hb hK hP 24 2 rfl rfl (by unfold vp_in; decide) dL_law_1349 ?_
    refine lv_iload hx hb dL_law_1350 (lv_at hl 0 rfl) ?_
    refine lv_i2l (v := r.toInt64) hx hb dL_law_1352 rfl ?_
    refine W.lcmp hx hb dL_law_1353 ?_
    refine lv_if_eq (tgt := 1359) hx hb dL_law_1354 (by decide) (fun _ => ?_) (fun c2 => absurd (by simp [lg_cmp, vp_updL]) c2)
    refine lv_goto (tgt := 1764) hx hb dL_law_1359 (by decide) ?_
    exact kk _ _ _ _ _ ls hrel hP hD hS (lv_sub hl [2, 3, 4, 5, 6] rfl)
  · rcases List.mem_cons.mp hq with rfl | hq
    · refine lv_aload_n hx hb dL_law_1294 rfl (lv_at hl 1 rfl) ?_
      refine lv_aload_n hx hb dL_law_1295 rfl (lv_at hl 0 rfl) ?_
      refine lv_iload hx hb dL_law_1296 (lv_at hl 4 rfl) ?_
      refine lv_iconst (v := 1) hx hb dL_law_1298 (by decide) ?_
      refine lv_iadd hx hb dL_law_1299 ?_
      refine va_sld hx hb hX hbl hbA hS hi1 dL_law_1300 ?_
      refine lv_topn hp1 ?_
      refine lv_aload_n hx hb dL_law_1301 rfl (lv_at hl 0 rfl) ?_
      refine lv_iload hx hb dL_law_1302 (lv_at hl 4 rfl) ?_
      refine lv_iconst (v := 2) hx hb dL_law_1304 (by decide) ?_
      refine lv_iadd hx hb dL_law_1305 ?_
      refine va_sld hx hb hX hbl hbA hS hi2 dL_law_1306 ?_
      refine lv_topn hp2 ?_
      refine lv_aload_n hx hb dL_law_1307 rfl (lv_at hl 3 rfl) ?_
      refine cc_iSHF (As := [.ref (ad 0), .int p1, .int p2, .ref o]) (rest := []) (wr := wM cI cZ am v) ⟨hx, hb, hml, hown, hts⟩ (kx1_L_send l hl0 D cI cZ cJ ad o f u p1 p2 hc) (vx_cwSW 4 hts (gwSH mw_763 mw_764 mw_47 mw_765) rfl rfl rfl (by decide +kernel) ⟨(Nat.le_of_ble_eq_true rfl), (Nat.le_of_ble_eq_true rfl)⟩) hK hP hD hS hA hZ [24, 25, 26, 27, 28, 29, 30, 31, 32, 33, 34, 35, 36, 37, 38, 39, 40, 41, 42, 43, 44, 45, 46, 47, 48, 49, 50, 51, 52, 53, 54, 55, 56, 57, 58, 59] [0, 1, 2, 3, 4, 5, 6, 7, 8, 9, 10, 11, 12, 13, 14, 15, 16, 17, 18, 19, 20, 21, 22, 23] rfl rfl (by decide) rfl (by decide) (by decide) rfl hl.1 rfl (Nat.le_of_ble_eq_true rfl) dL_law_1308 ⟨by show 60 + j + 1 ≤ 1087; omega, by show 5141 + 6 * j + 6 ≤ 13351; omega⟩ (fun H locs hP hD hS => ?_)
      replace hP : va_P D vwCl (wM cI cZ am v ++ wL cI cZ cJ ad o f u') H := hP
      replace hD : va_D (fun q : Nat => s.heap.size ≤ q) (wM cI cZ am v ++ wL cI cZ cJ ad o f u') := hD
      refine W.widen (k := 60 + (j + 1)) (n := 5141 + 6 * (j + 1)) (by omega) (by omega) ?_
      refine lv_istore (lv' := [(5, .int 1), (0, .ref b), (1, .ref (ad 0)), (2, .ref (am 0)), (3, .ref o), (4, .int i)]) hx hb dL_law_1311 hl (by decide) rfl (fun ls hl => ?_)
      refine lv_aload_n hx hb dL_law_1313 rfl (lv_at hl 3 rfl) ?_
      refine lv_aload_n hx hb dL_law_1314 rfl (lv_at hl 1 rfl) ?_
      refine lv_iload hx hb dL_law_1315 (lv_at hl 5 rfl) ?_
      refine lv_iconst (v := 1) hx hb dL_law_1317 (by decide) ?_
      refine lv_iadd hx hb dL_law_1318 ?_
      refine va_sld hx hb hX hbl hbA hS hi1 dL_law_1319 ?_
      refine lv_topn hp1 ?_
      refine lv_aload_n hx hb dL_law_1320 rfl (lv_at hl 1 rfl) ?_
      refine lv_iload hx hb dL_law_1321 (lv_at hl 5 rfl) ?_
      refine lv_iconst (v := 2) hx hb dL_law_1323 (by decide) ?_
      refine lv_iadd hx hb dL_law_1324 ?_
      refine va_sld hx hb hX hbl hbA hS hi2 dL_law_1325 ?_
      refine lv_topn hp2 ?_
      refine cc_iVF (As := [.int p1, .int p2]) (rest := []) (wr := wL cI cZ cJ ad o f u') ⟨hx, hb, hml, hown, hts⟩ (k_X10_send l D cI cZ am v p1 p2 hm) (cwV 2 hts (gwV mw_1137 mw_1138 mw_1139 mw_59 mw_1140) rfl rfl rfl (by decide +kernel) ⟨(Nat.le_of_ble_eq_true rfl), (Nat.le_of_ble_eq_true rfl)⟩) (hK.sub [0, 1] rfl) hP hD hS hA hZ [0, 1, 2, 3, 4, 5, 6, 7, 8, 9, 10, 11, 12, 13, 14, 15, 16, 17, 18, 19, 20, 21, 22, 23] [24, 25, 26, 27, 28, 29, 30, 31, 32, 33, 34, 35, 36, 37, 38, 39, 40, 41, 42, 43, 44, 45, 46, 47, 48, 49, 50, 51, 52, 53, 54, 55, 56, 57, 58, 59] rfl rfl (by decide) rfl (by decide) (by decide) (ci := 10) (q0 := 0) rfl rfl rfl hl.1 rfl (Nat.le_of_ble_eq_true rfl) dL_law_1326 ⟨by show 60 + (j + 1) ≤ 1087; omega, by show 5141 + 6 * (j + 1) ≤ 13351; omega⟩ (fun H locs hP hD hS => ?_)
      replace hP : va_P D vwCl (wM cI cZ am v' ++ wL cI cZ cJ ad o f u') H := hP.sub [36, 37, 38, 39, 40, 41, 42, 43, 44, 45, 46, 47, 48, 49, 50, 51, 52, 53, 54, 55, 56, 57, 58, 59, 0, 1, 2, 3, 4, 5, 6, 7, 8, 9, 10, 11, 12, 13, 14, 15, 16, 17, 18, 19, 20, 21, 22, 23, 24, 25, 26, 27, 28, 29, 30, 31, 32, 33, 34, 35] rfl
      replace hD : va_D (fun q : Nat => s.heap.size ≤ q) (wM cI cZ am v' ++ wL cI cZ cJ ad o f u') := hD.sub [36, 37, 38, 39, 40, 41, 42, 43, 44, 45, 46, 47, 48, 49, 50, 51, 52, 53, 54, 55, 56, 57, 58, 59, 0, 1, 2, 3, 4, 5, 6, 7, 8, 9, 10, 11, 12, 13, 14, 15, 16, 17, 18, 19, 20, 21, 22, 23, 24, 25, 26, 27, 28, 29, 30, 31, 32, 33, 34, 35] (by decide) rfl
      refine lv_istore (lv' := [(6, .int b9), (5, .int 1), (0, .ref b), (1, .ref (ad 0)), (2, .ref (am 0)), (3, .ref o), (4, .int i)]) hx hb dL_law_1329 hl (by decide) rfl (fun ls hl => ?_)
      refine lv_aload_n hx hb dL_law_1331 rfl (lv_at hl 4 rfl) ?_
      refine cc_iVF (As := []) (rest := []) (wr := wL cI cZ cJ ad o f u') ⟨hx, hb, hml, hown, hts⟩ (k_X10_thrown l D cI cZ am v' rfl) (cwV 0 hts (gwV mw_968 mw_969 mw_970 mw_59 mw_971) rfl rfl rfl (by decide +kernel) ⟨(Nat.le_of_ble_eq_true rfl), (Nat.le_of_ble_eq_true rfl)⟩) (hK.sub [0, 1] rfl) hP hD hS hA hZ [0, 1, 2, 3, 4, 5, 6, 7, 8, 9, 10, 11, 12, 13, 14, 15, 16, 17, 18, 19, 20, 21, 22, 23] [24, 25, 26, 27, 28, 29, 30, 31, 32, 33, 34, 35, 36, 37, 38, 39, 40, 41, 42, 43, 44, 45, 46, 47, 48, 49, 50, 51, 52, 53, 54, 55, 56, 57, 58, 59] rfl rfl (by decide) rfl (by decide) (by decide) (ci := 10) (q0 := 0) rfl rfl rfl hl.1 rfl (Nat.le_of_ble_eq_true rfl) dL_law_1332 ⟨by show 60 + (j + 1) ≤ 1087; omega, by show 5141 + 6 * (j + 1) ≤ 13351; omega⟩ (fun H locs hP hD hS => ?_)
      replace hP : va_P D vwCl (wM cI cZ am v' ++ wL cI cZ cJ ad o f u') H := hP.sub [36, 37, 38, 39, 40, 41, 42, 43, 44, 45, 46, 47, 48, 49, 50, 51, 52, 53, 54, 55, 56, 57, 58, 59, 0, 1, 2, 3, 4, 5, 6, 7, 8, 9, 10, 11, 12, 13, 14, 15, 16, 17, 18, 19, 20, 21, 22, 23, 24, 25, 26, 27, 28, 29, 30, 31, 32, 33, 34, 35] rfl
      replace hD : va_D (fun q : Nat => s.heap.size ≤ q) (wM cI cZ am v' ++ wL cI cZ cJ ad o f u') := hD.sub [36, 37, 38, 39, 40, 41, 42, 43, 44, 45, 46, 47, 48, 49, 50, 51, 52, 53, 54, 55, 56, 57, 58, 59, 0, 1, 2, 3, 4, 5, 6, 7, 8, 9, 10, 11, 12, 13, 14, 15, 16, 17, 18, 19, 20, 21, 22, 23, 24, 25, 26, 27, 28, 29, 30, 31, 32, 33, 34, 35] (by decide) rfl
      refine lv_iload hx hb dL_law_1335 (lv_at hl 1 rfl) ?_
      refine lv_icmp_eq (tgt := 1342) hx hb dL_law_1337 (by decide) (fun _ => ?_) (fun c1 => absurd ht c1)
      refine lv_iload hx hb dL_law_1342 (lv_at hl 1 rfl) ?_
      refine lv_if_ne (tgt := 1359) hx hb dL_law_1344 (by decide) (fun _ => ?_) (fun c1 => absurd c1 (by decide))
      refine lv_goto (tgt := 1764) hx hb dL_law_1359 (by decide) ?_
      exact kk _ _ _ _ _ ls hrel hP hD hS (lv_sub hl [2, 3, 4, 5, 6] rfl)
    · rcases List.mem_cons.mp hq with rfl | hq
      · refine lv_aload_n hx hb dL_law_1294 rfl (lv_at hl 1 rfl) ?_
        refine lv_aload_n hx hb dL_law_1295 rfl (lv_at hl 0 rfl) ?_
        refine lv_iload hx hb dL_law_1296 (lv_at hl 4 rfl) ?_
        refine lv_iconst (v := 1) hx hb dL_law_1298 (by decide) ?_
        refine lv_iadd hx hb dL_law_1299 ?_
        refine va_sld hx hb hX hbl hbA hS hi1 dL_law_1300 ?_
        refine lv_topn hp1 ?_
        refine lv_aload_n hx hb dL_law_1301 rfl (lv_at hl 0 rfl) ?_
        refine lv_iload hx hb dL_law_1302 (lv_at hl 4 rfl) ?_
        refine lv_iconst (v := 2) hx hb dL_law_1304 (by decide) ?_
        refine lv_iadd hx hb dL_law_1305 ?_
        refine va_sld hx hb hX hbl hbA hS hi2 dL_law_1306 ?_
        refine lv_topn hp2 ?_
        refine lv_aload_n hx hb dL_law_1307 rfl (lv_at hl 3 rfl) ?_
        refine cc_iSHF (As := [.ref (ad 0), .int p1, .int p2, .ref o]) (rest := []) (wr := wM cI cZ am v) ⟨hx, hb, hml, hown, hts⟩ (kx2_L_send l hl0 D cI cZ cJ ad o f u p1 p2 hc) (vx_cwSW 4 hts (gwSH mw_763 mw_764 mw_47 mw_765) rfl rfl rfl (by decide +kernel) ⟨(Nat.le_of_ble_eq_true rfl), (Nat.le_of_ble_eq_true rfl)⟩) hK hP hD hS hA hZ [24, 25, 26, 27, 28, 29, 30, 31, 32, 33, 34, 35, 36, 37, 38, 39, 40, 41, 42, 43, 44, 45, 46, 47, 48, 49, 50, 51, 52, 53, 54, 55, 56, 57, 58, 59] [0, 1, 2, 3, 4, 5, 6, 7, 8, 9, 10, 11, 12, 13, 14, 15, 16, 17, 18, 19, 20, 21, 22, 23] rfl rfl (by decide) rfl (by decide) (by decide) rfl hl.1 rfl (Nat.le_of_ble_eq_true rfl) dL_law_1308 ⟨by show 60 + j + 1 ≤ 1087; omega, by show 5141 + 6 * j + 6 ≤ 13351; omega⟩ (fun H locs hP hD hS => ?_)
        replace hP : va_P D vwCl (wM cI cZ am v ++ wL cI cZ cJ ad o f u') H := hP
        replace hD : va_D (fun q : Nat => s.heap.size ≤ q) (wM cI cZ am v ++ wL cI cZ cJ ad o f u') := hD
        refine W.widen (k := 60 + (j + 1)) (n := 5141 + 6 * (j + 1)) (by omega) (by omega) ?_
        refine lv_istore (lv' := [(5, .int 2), (0, .ref b), (1, .ref (ad 0)), (2, .ref (am 0)), (3, .ref o), (4, .int i)]) hx hb dL_law_1311 hl (by decide) rfl (fun ls hl => ?_)
        refine lv_aload_n hx hb dL_law_1313 rfl (lv_at hl 3 rfl) ?_
        refine lv_aload_n hx hb dL_law_1314 rfl (lv_at hl 1 rfl) ?_
        refine lv_iload hx hb dL_law_1315 (lv_at hl 5 rfl) ?_
        refine lv_iconst (v := 1) hx hb dL_law_1317 (by decide) ?_
        refine lv_iadd hx hb dL_law_1318 ?_
        refine va_sld hx hb hX hbl hbA hS hi1 dL_law_1319 ?_
        refine lv_topn hp1 ?_
        refine lv_aload_n hx hb dL_law_1320 rfl (lv_at hl 1 rfl) ?_
        refine lv_iload hx hb dL_law_1321 (lv_at hl 5 rfl) ?_
        refine lv_iconst (v := 2) hx hb dL_law_1323 (by decide) ?_
        refine lv_iadd hx hb dL_law_1324 ?_
        refine va_sld hx hb hX hbl hbA hS hi2 dL_law_1325 ?_
        refine lv_topn hp2 ?_
        refine cc_iVF (As := [.int p1, .int p2]) (rest := []) (wr := wL cI cZ cJ ad o f u') ⟨hx, hb, hml, hown, hts⟩ (k_X10_send l D cI cZ am v p1 p2 hm) (cwV 2 hts (gwV mw_1137 mw_1138 mw_1139 mw_59 mw_1140) rfl rfl rfl (by decide +kernel) ⟨(Nat.le_of_ble_eq_true rfl), (Nat.le_of_ble_eq_true rfl)⟩) (hK.sub [0, 1] rfl) hP hD hS hA hZ [0, 1, 2, 3, 4, 5, 6, 7, 8, 9, 10, 11, 12, 13, 14, 15, 16, 17, 18, 19, 20, 21, 22, 23] [24, 25, 26, 27, 28, 29, 30, 31, 32, 33, 34, 35, 36, 37, 38, 39, 40, 41, 42, 43, 44, 45, 46, 47, 48, 49, 50, 51, 52, 53, 54, 55, 56, 57, 58, 59] rfl rfl (by decide) rfl (by decide) (by decide) (ci := 10) (q0 := 0) rfl rfl rfl hl.1 rfl (Nat.le_of_ble_eq_true rfl) dL_law_1326 ⟨by show 60 + (j + 1) ≤ 1087; omega, by show 5141 + 6 * (j + 1) ≤ 13351; omega⟩ (fun H locs hP hD hS => ?_)
        replace hP : va_P D vwCl (wM cI cZ am v' ++ wL cI cZ cJ ad o f u') H := hP.sub [36, 37, 38, 39, 40, 41, 42, 43, 44, 45, 46, 47, 48, 49, 50, 51, 52, 53, 54, 55, 56, 57, 58, 59, 0, 1, 2, 3, 4, 5, 6, 7, 8, 9, 10, 11, 12, 13, 14, 15, 16, 17, 18, 19, 20, 21, 22, 23, 24, 25, 26, 27, 28, 29, 30, 31, 32, 33, 34, 35] rfl
        replace hD : va_D (fun q : Nat => s.heap.size ≤ q) (wM cI cZ am v' ++ wL cI cZ cJ ad o f u') := hD.sub [36, 37, 38, 39, 40, 41, 42, 43, 44, 45, 46, 47, 48, 49, 50, 51, 52, 53, 54, 55, 56, 57, 58, 59, 0, 1, 2, 3, 4, 5, 6, 7, 8, 9, 10, 11, 12, 13, 14, 15, 16, 17, 18, 19, 20, 21, 22, 23, 24, 25, 26, 27, 28, 29, 30, 31, 32, 33, 34, 35] (by decide) rfl
        refine lv_istore (lv' := [(6, .int b9), (5, .int 2), (0, .ref b), (1, .ref (ad 0)), (2, .ref (am 0)), (3, .ref o), (4, .int i)]) hx hb dL_law_1329 hl (by decide) rfl (fun ls hl => ?_)
        refine lv_aload_n hx hb dL_law_1331 rfl (lv_at hl 4 rfl) ?_
        refine cc_iVF (As := []) (rest := []) (wr := wL cI cZ cJ ad o f u') ⟨hx, hb, hml, hown, hts⟩ (k_X10_thrown l D cI cZ am v' rfl) (cwV 0 hts (gwV mw_968 mw_969 mw_970 mw_59 mw_971) rfl rfl rfl (by decide +kernel) ⟨(Nat.le_of_ble_eq_true rfl), (Nat.le_of_ble_eq_true rfl)⟩) (hK.sub [0, 1] rfl) hP hD hS hA hZ [0, 1, 2, 3, 4, 5, 6, 7, 8, 9, 10, 11, 12, 13, 14, 15, 16, 17, 18, 19, 20, 21, 22, 23] [24, 25, 26, 27, 28, 29, 30, 31, 32, 33, 34, 35, 36, 37, 38, 39, 40, 41, 42, 43, 44, 45, 46, 47, 48, 49, 50, 51, 52, 53, 54, 55, 56, 57, 58, 59] rfl rfl (by decide) rfl (by decide) (by decide) (ci := 10) (q0 := 0) rfl rfl rfl hl.1 rfl (Nat.le_of_ble_eq_true rfl) dL_law_1332 ⟨by show 60 + (j + 1) ≤ 1087; omega, by show 5141 + 6 * (j + 1) ≤ 13351; omega⟩ (fun H locs hP hD hS => ?_)
        replace hP : va_P D vwCl (wM cI cZ am v' ++ wL cI cZ cJ ad o f u') H := hP.sub [36, 37, 38, 39, 40, 41, 42, 43, 44, 45, 46, 47, 48, 49, 50, 51, 52, 53, 54, 55, 56, 57, 58, 59, 0, 1, 2, 3, 4, 5, 6, 7, 8, 9, 10, 11, 12, 13, 14, 15, 16, 17, 18, 19, 20, 21, 22, 23, 24, 25, 26, 27, 28, 29, 30, 31, 32, 33, 34, 35] rfl
        replace hD : va_D (fun q : Nat => s.heap.size ≤ q) (wM cI cZ am v' ++ wL cI cZ cJ ad o f u') := hD.sub [36, 37, 38, 39, 40, 41, 42, 43, 44, 45, 46, 47, 48, 49, 50, 51, 52, 53, 54, 55, 56, 57, 58, 59, 0, 1, 2, 3, 4, 5, 6, 7, 8, 9, 10, 11, 12, 13, 14, 15, 16, 17, 18, 19, 20, 21, 22, 23, 24, 25, 26, 27, 28, 29, 30, 31, 32, 33, 34, 35] (by decide) rfl
        refine lv_iload hx hb dL_law_1335 (lv_at hl 1 rfl) ?_
        refine lv_icmp_eq (tgt := 1342) hx hb dL_law_1337 (by decide) (fun _ => ?_) (fun c1 => absurd ht c1)
        refine lv_iload hx hb dL_law_1342 (lv_at hl 1 rfl) ?_
        refine lv_if_ne (tgt := 1359) hx hb dL_law_1344 (by decide) (fun _ => ?_) (fun c1 => absurd c1 (by decide))
        refine lv_goto (tgt := 1764) hx hb dL_law_1359 (by decide) ?_
        exact kk _ _ _ _ _ ls hrel hP hD hS (lv_sub hl [2, 3, 4, 5, 6] rfl)
      · exact absurd hq List.not_mem_nil

set_option maxHeartbeats 4000000 in
set_option maxRecDepth 100000 in
theorem lc_patrol {p : Program} {l : Launch} {e : Env} {s : State} {m : MethodId} {below : List Frame} {meth : Method} {c : Code} {b L : Nat} {xs : Nat → Int32} (hl0 : l.stackTraces = false) (C0 : lw_At p s m meth c b L xs) (hZ : cst (fun q : Nat => s.heap.size ≤ q) s) {D : va_G} {cI cZ cJ : ClassId} (hK : va_K D vwCl [(cI, .int), (cZ, .boolean), (cJ, .long)] s) {Rel : GS → MS → Prop} {am ad : Nat → Nat} {o : Nat} {f : Nat → Int64} {u : GS} {v : MS} {i : Int32} {j : Nat} (hj : j ≤ 511) (hi : lin i L) {p1 : Int32} (hp1 : xs (i + 1).toNatClampNeg = p1) {p2 : Int32} (hp2 : xs (i + 2).toNatClampNeg = p2) (hsim : SI Rel (g_X9_patrol u p1 p2) (g_X10_patrol v p1 p2) [("java/lang/IndexOutOfBoundsException", 1), ("java/lang/IllegalArgumentException", 2)]) {H : Heap} {locs : List Loc} {ls : Array Slot} (hP : va_P D vwCl (wM cI cZ am v ++ wL cI cZ cJ ad o f u) H) (hD : va_D (fun q : Nat => s.heap.size ≤ q) (wM cI cZ am v ++ wL cI cZ cJ ad o f u)) (hS : va_S (fun q : Nat => s.heap.size ≤ q) s.heap H locs) (hl : lv_has ls 7 [(0, .ref b), (1, .ref (ad 0)), (2, .ref (am 0)), (3, .ref o), (4, .int i)]) (kk : ∀ (u' : GS) (v' : MS) (f' : Nat → Int64) (H : Heap) (locs : List Loc) (ls : Array Slot), Rel u' v' → va_P D vwCl (wM cI cZ am v' ++ wL cI cZ cJ ad o f' u') H → va_D (fun q : Nat => s.heap.size ≤ q) (wM cI cZ am v' ++ wL cI cZ cJ ad o f' u') → va_S (fun q : Nat => s.heap.size ≤ q) s.heap H locs → lv_has ls 7 [(0, .ref b), (1, .ref (ad 0)), (2, .ref (am 0)), (3, .ref o), (4, .int i)] → W p l e room_1 s m #[Value.ref b] below meth c H locs (60 + (j + 1)) (5141 + 6 * (j + 1)) (lw_Z below #[Value.ref b] s) (F0 m 1764 ls [])) : W p l e room_1 s m #[Value.ref b] below meth c H locs (60 + j) (5141 + 6 * j) (lw_Z below #[Value.ref b] s) (F0 m 1362 ls []) := by
  obtain ⟨hx, hb, hr, hml, hown, hts0, hX, hbl, hlocks, hgv⟩ := id C0
  have hts : ∀ w ∈ Wall, w.before #[Value.ref b] s = true := fun w h => hts0 w (wall_tbl w h)
  have hA : ∀ q : Nat, s.heap.size ≤ q → (fun q : Nat => s.heap.size ≤ q) q := fun _ h => h
  have hbA : ¬ (fun q : Nat => s.heap.size ≤ q) b := Nat.not_le.mpr hbl
  obtain ⟨-, hi1, hi2, hi3, hi4, hi5⟩ := hi
  rcases hsim with ⟨r, u', v', hc, hm, ht, hrel⟩ | ⟨q, u', b9, v', hq, hc, hm, ht, hrel⟩
  · refine lv_aload_n hx hb dL_law_1362 rfl (lv_at hl 1 rfl) ?_
    refine lv_aload_n hx hb dL_law_1363 rfl (lv_at hl 0 rfl) ?_
    refine lv_iload hx hb dL_law_1364 (lv_at hl 4 rfl) ?_
    refine lv_iconst (v := 1) hx hb dL_law_1366 (by decide) ?_
    refine lv_iadd hx hb dL_law_1367 ?_
    refine va_sld hx hb hX hbl hbA hS hi1 dL_law_1368 ?_
    refine lv_topn hp1 ?_
    refine lv_aload_n hx hb dL_law_1369 rfl (lv_at hl 0 rfl) ?_
    refine lv_iload hx hb dL_law_1370 (lv_at hl 4 rfl) ?_
    refine lv_iconst (v := 2) hx hb dL_law_1372 (by decide) ?_
    refine lv_iadd hx hb dL_law_1373 ?_
    refine va_sld hx hb hX hbl hbA hS hi2 dL_law_1374 ?_
    refine lv_topn hp2 ?_
    refine lv_aload_n hx hb dL_law_1375 rfl (lv_at hl 3 rfl) ?_
    refine cc_iSHF (As := [.ref (ad 0), .int p1, .int p2, .ref o]) (rest := []) (wr := wM cI cZ am v) ⟨hx, hb, hml, hown, hts⟩ (k_L_patrol l D cI cZ cJ ad o f u p1 p2 hc) (vx_cwSW 4 hts (gwSH mw_770 mw_771 mw_47 mw_772) rfl rfl rfl (by decide +kernel) ⟨(Nat.le_of_ble_eq_true rfl), (Nat.le_of_ble_eq_true rfl)⟩) hK hP hD hS hA hZ [24, 25, 26, 27, 28, 29, 30, 31, 32, 33, 34, 35, 36, 37, 38, 39, 40, 41, 42, 43, 44, 45, 46, 47, 48, 49, 50, 51, 52, 53, 54, 55, 56, 57, 58, 59] [0, 1, 2, 3, 4, 5, 6, 7, 8, 9, 10, 11, 12, 13, 14, 15, 16, 17, 18, 19, 20, 21, 22, 23] rfl rfl (by decide) rfl (by decide) (by decide) rfl hl.1 rfl (Nat.le_of_ble_eq_true rfl) dL_law_1376 ⟨by show 60 + j ≤ 1087; omega, by show 5141 + 6 * j ≤ 13351; omega⟩ (fun H locs hP hD hS => ?_)
    replace hP : va_P D vwCl (wM cI cZ am v ++ wL cI cZ cJ ad o (vp_updL f (0 : Int32).toNatClampNeg r.toInt64) u') H := hP
    replace hD : va_D (fun q : Nat => s.heap.size ≤ q) (wM cI cZ am v ++ wL cI cZ cJ ad o (vp_updL f (0 : Int32).toNatClampNeg r.toInt64) u') := hD
    refine W.widen (k := 60 + (j + 1)) (n := 5141 + 6 * (j + 1)) (by omega) (by omega) ?_
    refine lv_istore (lv' := [(5, .int 0), (0, .ref b), (1, .ref (ad 0)), (2, .ref (am 0)), (3, .ref o), (4, .int i)]) hx hb dL_law_1379 hl (by decide) rfl (fun ls hl => ?_)
    refine lv_aload_n hx hb dL_law_1381 rfl (lv_at hl 3 rfl) ?_
    refine lv_aload_n hx hb dL_law_1382 rfl (lv_at hl 1 rfl) ?_
    refine lv_iload hx hb dL_law_1383 (lv_at hl 5 rfl) ?_
    refine lv_iconst (v := 1) hx hb dL_law_1385 (by decide) ?_
    refine lv_iadd hx hb dL_law_1386 ?_
    refine va_sld hx hb hX hbl hbA hS hi1 dL_law_1387 ?_
    refine lv_topn hp1 ?_
    refine lv_aload_n hx hb dL_law_1388 rfl (lv_at hl 1 rfl) ?_
    refine lv_iload hx hb dL_law_1389 (lv_at hl 5 rfl) ?_
    refine lv_iconst (v := 2) hx hb dL_law_1391 (by decide) ?_
    refine lv_iadd hx hb dL_law_1392 ?_
    refine va_sld hx hb hX hbl hbA hS hi2 dL_law_1393 ?_
    refine lv_topn hp2 ?_
    refine cc_iVF (As := [.int p1, .int p2]) (rest := []) (wr := wL cI cZ cJ ad o (vp_updL f (0 : Int32).toNatClampNeg r.toInt64) u') ⟨hx, hb, hml, hown, hts⟩ (k_X10_patrol l D cI cZ am v p1 p2 hm) (cwV 2 hts (gwV mw_1141 mw_1142 mw_1143 mw_59 mw_1144) rfl rfl rfl (by decide +kernel) ⟨(Nat.le_of_ble_eq_true rfl), (Nat.le_of_ble_eq_true rfl)⟩) (hK.sub [0, 1] rfl) hP hD hS hA hZ [0, 1, 2, 3, 4, 5, 6, 7, 8, 9, 10, 11, 12, 13, 14, 15, 16, 17, 18, 19, 20, 21, 22, 23] [24, 25, 26, 27, 28, 29, 30, 31, 32, 33, 34, 35, 36, 37, 38, 39, 40, 41, 42, 43, 44, 45, 46, 47, 48, 49, 50, 51, 52, 53, 54, 55, 56, 57, 58, 59] rfl rfl (by decide) rfl (by decide) (by decide) (ci := 10) (q0 := 0) rfl rfl rfl hl.1 rfl (Nat.le_of_ble_eq_true rfl) dL_law_1394 ⟨by show 60 + (j + 1) ≤ 1087; omega, by show 5141 + 6 * (j + 1) ≤ 13351; omega⟩ (fun H locs hP hD hS => ?_)
    replace hP : va_P D vwCl (wM cI cZ am v' ++ wL cI cZ cJ ad o (vp_updL f (0 : Int32).toNatClampNeg r.toInt64) u') H := hP.sub [36, 37, 38, 39, 40, 41, 42, 43, 44, 45, 46, 47, 48, 49, 50, 51, 52, 53, 54, 55, 56, 57, 58, 59, 0, 1, 2, 3, 4, 5, 6, 7, 8, 9, 10, 11, 12, 13, 14, 15, 16, 17, 18, 19, 20, 21, 22, 23, 24, 25, 26, 27, 28, 29, 30, 31, 32, 33, 34, 35] rfl
    replace hD : va_D (fun q : Nat => s.heap.size ≤ q) (wM cI cZ am v' ++ wL cI cZ cJ ad o (vp_updL f (0 : Int32).toNatClampNeg r.toInt64) u') := hD.sub [36, 37, 38, 39, 40, 41, 42, 43, 44, 45, 46, 47, 48, 49, 50, 51, 52, 53, 54, 55, 56, 57, 58, 59, 0, 1, 2, 3, 4, 5, 6, 7, 8, 9, 10, 11, 12, 13, 14, 15, 16, 17, 18, 19, 20, 21, 22, 23, 24, 25, 26, 27, 28, 29, 30, 31, 32, 33, 34, 35] (by decide) rfl
    refine lv_istore (lv' := [(6, .int r), (5, .int 0), (0, .ref b), (1, .ref (ad 0)), (2, .ref (am 0)), (3, .ref o), (4, .int i)]) hx hb dL_law_1397 hl (by decide) rfl (fun ls hl => ?_)
    refine lv_aload_n hx hb dL_law_1399 rfl (lv_at hl 4 rfl) ?_
    refine cc_iVF (As := []) (rest := []) (wr := wL cI cZ cJ ad o (vp_updL f (0 : Int32).toNatClampNeg r.toInt64) u') ⟨hx, hb, hml, hown, hts⟩ (k_X10_thrown l D cI cZ am v' rfl) (cwV 0 hts (gwV mw_968 mw_969 mw_970 mw_59 mw_971) rfl rfl rfl (by decide +kernel) ⟨(Nat.le_of_ble_eq_true rfl), (Nat.le_of_ble_eq_true rfl)⟩) (hK.sub [0, 1] rfl) hP hD hS hA hZ [0, 1, 2, 3, 4, 5, 6, 7, 8, 9, 10, 11, 12, 13, 14, 15, 16, 17, 18, 19, 20, 21, 22, 23] [24, 25, 26, 27, 28, 29, 30, 31, 32, 33, 34, 35, 36, 37, 38, 39, 40, 41, 42, 43, 44, 45, 46, 47, 48, 49, 50, 51, 52, 53, 54, 55, 56, 57, 58, 59] rfl rfl (by decide) rfl (by decide) (by decide) (ci := 10) (q0 := 0) rfl rfl rfl hl.1 rfl (Nat.le_of_ble_eq_true rfl) dL_law_1400 ⟨by show 60 + (j + 1) ≤ 1087; omega, by show 5141 + 6 * (j + 1) ≤ 13351; omega⟩ (fun H locs hP hD hS => ?_)
    replace hP : va_P D vwCl (wM cI cZ am v' ++ wL cI cZ cJ ad o (vp_updL f (0 : Int32).toNatClampNeg r.toInt64) u') H := hP.sub [36, 37, 38, 39, 40, 41, 42, 43, 44, 45, 46, 47, 48, 49, 50, 51, 52, 53, 54, 55, 56, 57, 58, 59, 0, 1, 2, 3, 4, 5, 6, 7, 8, 9, 10, 11, 12, 13, 14, 15, 16, 17, 18, 19, 20, 21, 22, 23, 24, 25, 26, 27, 28, 29, 30, 31, 32, 33, 34, 35] rfl
    replace hD : va_D (fun q : Nat => s.heap.size ≤ q) (wM cI cZ am v' ++ wL cI cZ cJ ad o (vp_updL f (0 : Int32).toNatClampNeg r.toInt64) u') := hD.sub [36, 37, 38, 39, 40, 41, 42, 43, 44, 45, 46, 47, 48, 49, 50, 51, 52, 53, 54, 55, 56, 57, 58, 59, 0, 1, 2, 3, 4, 5, 6, 7, 8, 9, 10, 11, 12, 13, 14, 15, 16, 17, 18, 19, 20, 21, 22, 23, 24, 25, 26, 27, 28, 29, 30, 31, 32, 33, 34, 35] (by decide) rfl
    refine lv_iload hx hb dL_law_1403 (lv_at hl 1 rfl) ?_
    refine lv_icmp_eq (tgt := 1410) hx hb dL_law_1405 (by decide) (fun _ => ?_) (fun c1 => absurd ht c1)
    refine lv_iload hx hb dL_law_1410 (lv_at hl 1 rfl) ?_
    refine lv_if_ne (tgt := 1427) hx hb dL_law_1412 (by decide) (fun c1 => absurd rfl c1) (fun _ => ?_)
    refine lv_aload_n hx hb dL_law_1415 rfl (lv_at hl 5 rfl) ?_
    refine lv_iconst (v := 0) hx hb dL_law_1416 (by decide) ?_
    refine va_lald (D := D) hx hb hK hP 24 2 rfl rfl (by unfold vp_in; decide) dL_law_1417 ?_
    refine lv_iload hx hb dL_law_1418 (lv_at hl 0 rfl) ?_
    refine lv_i2l (v := r.toInt64) hx hb dL_law_1420 rfl ?_
    refine W.lcmp hx hb dL_law_1421 ?_
    refine lv_if_eq (tgt := 1427) hx hb dL_law_1422 (by decide) (fun _ => ?_) (fun c2 => absurd (by simp [lg_cmp, vp_updL]) c2)
    refine lv_goto (tgt := 1764) hx hb dL_law_1427 (by decide) ?_
    exact kk _ _ _ _ _ ls hrel hP hD hS (lv_sub hl [2, 3, 4, 5, 6] rfl)
  · rcases List.mem_cons.mp hq with rfl | hq
    · refine lv_aload_n hx hb dL_law_1362 rfl (lv_at hl 1 rfl) ?_
      refine lv_aload_n hx hb dL_law_1363 rfl (lv_at hl 0 rfl) ?_
      refine lv_iload hx hb dL_law_1364 (lv_at hl 4 rfl) ?_
      refine lv_iconst (v := 1) hx hb dL_law_1366 (by decide) ?_
      refine lv_iadd hx hb dL_law_1367 ?_
      refine va_sld hx hb hX hbl hbA hS hi1 dL_law_1368 ?_
      refine lv_topn hp1 ?_
      refine lv_aload_n hx hb dL_law_1369 rfl (lv_at hl 0 rfl) ?_
      refine lv_iload hx hb dL_law_1370 (lv_at hl 4 rfl) ?_
      refine lv_iconst (v := 2) hx hb dL_law_1372 (by decide) ?_
      refine lv_iadd hx hb dL_law_1373 ?_
      refine va_sld hx hb hX hbl hbA hS hi2 dL_law_1374 ?_
      refine lv_topn hp2 ?_
      refine lv_aload_n hx hb dL_law_1375 rfl (lv_at hl 3 rfl) ?_
      refine cc_iSHF (As := [.ref (ad 0), .int p1, .int p2, .ref o]) (rest := []) (wr := wM cI cZ am v) ⟨hx, hb, hml, hown, hts⟩ (kx1_L_patrol l hl0 D cI cZ cJ ad o f u p1 p2 hc) (vx_cwSW 4 hts (gwSH mw_770 mw_771 mw_47 mw_772) rfl rfl rfl (by decide +kernel) ⟨(Nat.le_of_ble_eq_true rfl), (Nat.le_of_ble_eq_true rfl)⟩) hK hP hD hS hA hZ [24, 25, 26, 27, 28, 29, 30, 31, 32, 33, 34, 35, 36, 37, 38, 39, 40, 41, 42, 43, 44, 45, 46, 47, 48, 49, 50, 51, 52, 53, 54, 55, 56, 57, 58, 59] [0, 1, 2, 3, 4, 5, 6, 7, 8, 9, 10, 11, 12, 13, 14, 15, 16, 17, 18, 19, 20, 21, 22, 23] rfl rfl (by decide) rfl (by decide) (by decide) rfl hl.1 rfl (Nat.le_of_ble_eq_true rfl) dL_law_1376 ⟨by show 60 + j + 1 ≤ 1087; omega, by show 5141 + 6 * j + 6 ≤ 13351; omega⟩ (fun H locs hP hD hS => ?_)
      replace hP : va_P D vwCl (wM cI cZ am v ++ wL cI cZ cJ ad o f u') H := hP
      replace hD : va_D (fun q : Nat => s.heap.size ≤ q) (wM cI cZ am v ++ wL cI cZ cJ ad o f u') := hD
      refine W.widen (k := 60 + (j + 1)) (n := 5141 + 6 * (j + 1)) (by omega) (by omega) ?_
      refine lv_istore (lv' := [(5, .int 1), (0, .ref b), (1, .ref (ad 0)), (2, .ref (am 0)), (3, .ref o), (4, .int i)]) hx hb dL_law_1379 hl (by decide) rfl (fun ls hl => ?_)
      refine lv_aload_n hx hb dL_law_1381 rfl (lv_at hl 3 rfl) ?_
      refine lv_aload_n hx hb dL_law_1382 rfl (lv_at hl 1 rfl) ?_
      refine lv_iload hx hb dL_law_1383 (lv_at hl 5 rfl) ?_
      refine lv_iconst (v := 1) hx hb dL_law_1385 (by decide) ?_
      refine lv_iadd hx hb dL_law_1386 ?_
      refine va_sld hx hb hX hbl hbA hS hi1 dL_law_1387 ?_
      refine lv_topn hp1 ?_
      refine lv_aload_n hx hb dL_law_1388 rfl (lv_at hl 1 rfl) ?_
      refine lv_iload hx hb dL_law_1389 (lv_at hl 5 rfl) ?_
      refine lv_iconst (v := 2) hx hb dL_law_1391 (by decide) ?_
      refine lv_iadd hx hb dL_law_1392 ?_
      refine va_sld hx hb hX hbl hbA hS hi2 dL_law_1393 ?_
      refine lv_topn hp2 ?_
      refine cc_iVF (As := [.int p1, .int p2]) (rest := []) (wr := wL cI cZ cJ ad o f u') ⟨hx, hb, hml, hown, hts⟩ (k_X10_patrol l D cI cZ am v p1 p2 hm) (cwV 2 hts (gwV mw_1141 mw_1142 mw_1143 mw_59 mw_1144) rfl rfl rfl (by decide +kernel) ⟨(Nat.le_of_ble_eq_true rfl), (Nat.le_of_ble_eq_true rfl)⟩) (hK.sub [0, 1] rfl) hP hD hS hA hZ [0, 1, 2, 3, 4, 5, 6, 7, 8, 9, 10, 11, 12, 13, 14, 15, 16, 17, 18, 19, 20, 21, 22, 23] [24, 25, 26, 27, 28, 29, 30, 31, 32, 33, 34, 35, 36, 37, 38, 39, 40, 41, 42, 43, 44, 45, 46, 47, 48, 49, 50, 51, 52, 53, 54, 55, 56, 57, 58, 59] rfl rfl (by decide) rfl (by decide) (by decide) (ci := 10) (q0 := 0) rfl rfl rfl hl.1 rfl (Nat.le_of_ble_eq_true rfl) dL_law_1394 ⟨by show 60 + (j + 1) ≤ 1087; omega, by show 5141 + 6 * (j + 1) ≤ 13351; omega⟩ (fun H locs hP hD hS => ?_)
      replace hP : va_P D vwCl (wM cI cZ am v' ++ wL cI cZ cJ ad o f u') H := hP.sub [36, 37, 38, 39, 40, 41, 42, 43, 44, 45, 46, 47, 48, 49, 50, 51, 52, 53, 54, 55, 56, 57, 58, 59, 0, 1, 2, 3, 4, 5, 6, 7, 8, 9, 10, 11, 12, 13, 14, 15, 16, 17, 18, 19, 20, 21, 22, 23, 24, 25, 26, 27, 28, 29, 30, 31, 32, 33, 34, 35] rfl
      replace hD : va_D (fun q : Nat => s.heap.size ≤ q) (wM cI cZ am v' ++ wL cI cZ cJ ad o f u') := hD.sub [36, 37, 38, 39, 40, 41, 42, 43, 44, 45, 46, 47, 48, 49, 50, 51, 52, 53, 54, 55, 56, 57, 58, 59, 0, 1, 2, 3, 4, 5, 6, 7, 8, 9, 10, 11, 12, 13, 14, 15, 16, 17, 18, 19, 20, 21, 22, 23, 24, 25, 26, 27, 28, 29, 30, 31, 32, 33, 34, 35] (by decide) rfl
      refine lv_istore (lv' := [(6, .int b9), (5, .int 1), (0, .ref b), (1, .ref (ad 0)), (2, .ref (am 0)), (3, .ref o), (4, .int i)]) hx hb dL_law_1397 hl (by decide) rfl (fun ls hl => ?_)
      refine lv_aload_n hx hb dL_law_1399 rfl (lv_at hl 4 rfl) ?_
      refine cc_iVF (As := []) (rest := []) (wr := wL cI cZ cJ ad o f u') ⟨hx, hb, hml, hown, hts⟩ (k_X10_thrown l D cI cZ am v' rfl) (cwV 0 hts (gwV mw_968 mw_969 mw_970 mw_59 mw_971) rfl rfl rfl (by decide +kernel) ⟨(Nat.le_of_ble_eq_true rfl), (Nat.le_of_ble_eq_true rfl)⟩) (hK.sub [0, 1] rfl) hP hD hS hA hZ [0, 1, 2, 3, 4, 5, 6, 7, 8, 9, 10, 11, 12, 13, 14, 15, 16, 17, 18, 19, 20, 21, 22, 23] [24, 25, 26, 27, 28, 29, 30, 31, 32, 33, 34, 35, 36, 37, 38, 39, 40, 41, 42, 43, 44, 45, 46, 47, 48, 49, 50, 51, 52, 53, 54, 55, 56, 57, 58, 59] rfl rfl (by decide) rfl (by decide) (by decide) (ci := 10) (q0 := 0) rfl rfl rfl hl.1 rfl (Nat.le_of_ble_eq_true rfl) dL_law_1400 ⟨by show 60 + (j + 1) ≤ 1087; omega, by show 5141 + 6 * (j + 1) ≤ 13351; omega⟩ (fun H locs hP hD hS => ?_)
      replace hP : va_P D vwCl (wM cI cZ am v' ++ wL cI cZ cJ ad o f u') H := hP.sub [36, 37, 38, 39, 40, 41, 42, 43, 44, 45, 46, 47, 48, 49, 50, 51, 52, 53, 54, 55, 56, 57, 58, 59, 0, 1, 2, 3, 4, 5, 6, 7, 8, 9, 10, 11, 12, 13, 14, 15, 16, 17, 18, 19, 20, 21, 22, 23, 24, 25, 26, 27, 28, 29, 30, 31, 32, 33, 34, 35] rfl
      replace hD : va_D (fun q : Nat => s.heap.size ≤ q) (wM cI cZ am v' ++ wL cI cZ cJ ad o f u') := hD.sub [36, 37, 38, 39, 40, 41, 42, 43, 44, 45, 46, 47, 48, 49, 50, 51, 52, 53, 54, 55, 56, 57, 58, 59, 0, 1, 2, 3, 4, 5, 6, 7, 8, 9, 10, 11, 12, 13, 14, 15, 16, 17, 18, 19, 20, 21, 22, 23, 24, 25, 26, 27, 28, 29, 30, 31, 32, 33, 34, 35] (by decide) rfl
      refine lv_iload hx hb dL_law_1403 (lv_at hl 1 rfl) ?_
      refine lv_icmp_eq (tgt := 1410) hx hb dL_law_1405 (by decide) (fun _ => ?_) (fun c1 => absurd ht c1)
      refine lv_iload hx hb dL_law_1410 (lv_at hl 1 rfl) ?_
      refine lv_if_ne (tgt := 1427) hx hb dL_law_1412 (by decide) (fun _ => ?_) (fun c1 => absurd c1 (by decide))
      refine lv_goto (tgt := 1764) hx hb dL_law_1427 (by decide) ?_
      exact kk _ _ _ _ _ ls hrel hP hD hS (lv_sub hl [2, 3, 4, 5, 6] rfl)
    · rcases List.mem_cons.mp hq with rfl | hq
      · refine lv_aload_n hx hb dL_law_1362 rfl (lv_at hl 1 rfl) ?_
        refine lv_aload_n hx hb dL_law_1363 rfl (lv_at hl 0 rfl) ?_
        refine lv_iload hx hb dL_law_1364 (lv_at hl 4 rfl) ?_
        refine lv_iconst (v := 1) hx hb dL_law_1366 (by decide) ?_
        refine lv_iadd hx hb dL_law_1367 ?_
        refine va_sld hx hb hX hbl hbA hS hi1 dL_law_1368 ?_
        refine lv_topn hp1 ?_
        refine lv_aload_n hx hb dL_law_1369 rfl (lv_at hl 0 rfl) ?_
        refine lv_iload hx hb dL_law_1370 (lv_at hl 4 rfl) ?_
        refine lv_iconst (v := 2) hx hb dL_law_1372 (by decide) ?_
        refine lv_iadd hx hb dL_law_1373 ?_
        refine va_sld hx hb hX hbl hbA hS hi2 dL_law_1374 ?_
        refine lv_topn hp2 ?_
        refine lv_aload_n hx hb dL_law_1375 rfl (lv_at hl 3 rfl) ?_
        refine cc_iSHF (As := [.ref (ad 0), .int p1, .int p2, .ref o]) (rest := []) (wr := wM cI cZ am v) ⟨hx, hb, hml, hown, hts⟩ (kx2_L_patrol l hl0 D cI cZ cJ ad o f u p1 p2 hc) (vx_cwSW 4 hts (gwSH mw_770 mw_771 mw_47 mw_772) rfl rfl rfl (by decide +kernel) ⟨(Nat.le_of_ble_eq_true rfl), (Nat.le_of_ble_eq_true rfl)⟩) hK hP hD hS hA hZ [24, 25, 26, 27, 28, 29, 30, 31, 32, 33, 34, 35, 36, 37, 38, 39, 40, 41, 42, 43, 44, 45, 46, 47, 48, 49, 50, 51, 52, 53, 54, 55, 56, 57, 58, 59] [0, 1, 2, 3, 4, 5, 6, 7, 8, 9, 10, 11, 12, 13, 14, 15, 16, 17, 18, 19, 20, 21, 22, 23] rfl rfl (by decide) rfl (by decide) (by decide) rfl hl.1 rfl (Nat.le_of_ble_eq_true rfl) dL_law_1376 ⟨by show 60 + j + 1 ≤ 1087; omega, by show 5141 + 6 * j + 6 ≤ 13351; omega⟩ (fun H locs hP hD hS => ?_)
        replace hP : va_P D vwCl (wM cI cZ am v ++ wL cI cZ cJ ad o f u') H := hP
        replace hD : va_D (fun q : Nat => s.heap.size ≤ q) (wM cI cZ am v ++ wL cI cZ cJ ad o f u') := hD
        refine W.widen (k := 60 + (j + 1)) (n := 5141 + 6 * (j + 1)) (by omega) (by omega) ?_
        refine lv_istore (lv' := [(5, .int 2), (0, .ref b), (1, .ref (ad 0)), (2, .ref (am 0)), (3, .ref o), (4, .int i)]) hx hb dL_law_1379 hl (by decide) rfl (fun ls hl => ?_)
        refine lv_aload_n hx hb dL_law_1381 rfl (lv_at hl 3 rfl) ?_
        refine lv_aload_n hx hb dL_law_1382 rfl (lv_at hl 1 rfl) ?_
        refine lv_iload hx hb dL_law_1383 (lv_at hl 5 rfl) ?_
        refine lv_iconst (v := 1) hx hb dL_law_1385 (by decide) ?_
        refine lv_iadd hx hb dL_law_1386 ?_
        refine va_sld hx hb hX hbl hbA hS hi1 dL_law_1387 ?_
        refine lv_topn hp1 ?_
        refine lv_aload_n hx hb dL_law_1388 rfl (lv_at hl 1 rfl) ?_
        refine lv_iload hx hb dL_law_1389 (lv_at hl 5 rfl) ?_
        refine lv_iconst (v := 2) hx hb dL_law_1391 (by decide) ?_
        refine lv_iadd hx hb dL_law_1392 ?_
        refine va_sld hx hb hX hbl hbA hS hi2 dL_law_1393 ?_
        refine lv_topn hp2 ?_
        refine cc_iVF (As := [.int p1, .int p2]) (rest := []) (wr := wL cI cZ cJ ad o f u') ⟨hx, hb, hml, hown, hts⟩ (k_X10_patrol l D cI cZ am v p1 p2 hm) (cwV 2 hts (gwV mw_1141 mw_1142 mw_1143 mw_59 mw_1144) rfl rfl rfl (by decide +kernel) ⟨(Nat.le_of_ble_eq_true rfl), (Nat.le_of_ble_eq_true rfl)⟩) (hK.sub [0, 1] rfl) hP hD hS hA hZ [0, 1, 2, 3, 4, 5, 6, 7, 8, 9, 10, 11, 12, 13, 14, 15, 16, 17, 18, 19, 20, 21, 22, 23] [24, 25, 26, 27, 28, 29, 30, 31, 32, 33, 34, 35, 36, 37, 38, 39, 40, 41, 42, 43, 44, 45, 46, 47, 48, 49, 50, 51, 52, 53, 54, 55, 56, 57, 58, 59] rfl rfl (by decide) rfl (by decide) (by decide) (ci := 10) (q0 := 0) rfl rfl rfl hl.1 rfl (Nat.le_of_ble_eq_true rfl) dL_law_1394 ⟨by show 60 + (j + 1) ≤ 1087; omega, by show 5141 + 6 * (j + 1) ≤ 13351; omega⟩ (fun H locs hP hD hS => ?_)
        replace hP : va_P D vwCl (wM cI cZ am v' ++ wL cI cZ cJ ad o f u') H := hP.sub [36, 37, 38, 39, 40, 41, 42, 43, 44, 45, 46, 47, 48, 49, 50, 51, 52, 53, 54, 55, 56, 57, 58, 59, 0, 1, 2, 3, 4, 5, 6, 7, 8, 9, 10, 11, 12, 13, 14, 15, 16, 17, 18, 19, 20, 21, 22, 23, 24, 25, 26, 27, 28, 29, 30, 31, 32, 33, 34, 35] rfl
        replace hD : va_D (fun q : Nat => s.heap.size ≤ q) (wM cI cZ am v' ++ wL cI cZ cJ ad o f u') := hD.sub [36, 37, 38, 39, 40, 41, 42, 43, 44, 45, 46, 47, 48, 49, 50, 51, 52, 53, 54, 55, 56, 57, 58, 59, 0, 1, 2, 3, 4, 5, 6, 7, 8, 9, 10, 11, 12, 13, 14, 15, 16, 17, 18, 19, 20, 21, 22, 23, 24, 25, 26, 27, 28, 29, 30, 31, 32, 33, 34, 35] (by decide) rfl
        refine lv_istore (lv' := [(6, .int b9), (5, .int 2), (0, .ref b), (1, .ref (ad 0)), (2, .ref (am 0)), (3, .ref o), (4, .int i)]) hx hb dL_law_1397 hl (by decide) rfl (fun ls hl => ?_)
        refine lv_aload_n hx hb dL_law_1399 rfl (lv_at hl 4 rfl) ?_
        refine cc_iVF (As := []) (rest := []) (wr := wL cI cZ cJ ad o f u') ⟨hx, hb, hml, hown, hts⟩ (k_X10_thrown l D cI cZ am v' rfl) (cwV 0 hts (gwV mw_968 mw_969 mw_970 mw_59 mw_971) rfl rfl rfl (by decide +kernel) ⟨(Nat.le_of_ble_eq_true rfl), (Nat.le_of_ble_eq_true rfl)⟩) (hK.sub [0, 1] rfl) hP hD hS hA hZ [0, 1, 2, 3, 4, 5, 6, 7, 8, 9, 10, 11, 12, 13, 14, 15, 16, 17, 18, 19, 20, 21, 22, 23] [24, 25, 26, 27, 28, 29, 30, 31, 32, 33, 34, 35, 36, 37, 38, 39, 40, 41, 42, 43, 44, 45, 46, 47, 48, 49, 50, 51, 52, 53, 54, 55, 56, 57, 58, 59] rfl rfl (by decide) rfl (by decide) (by decide) (ci := 10) (q0 := 0) rfl rfl rfl hl.1 rfl (Nat.le_of_ble_eq_true rfl) dL_law_1400 ⟨by show 60 + (j + 1) ≤ 1087; omega, by show 5141 + 6 * (j + 1) ≤ 13351; omega⟩ (fun H locs hP hD hS => ?_)
        replace hP : va_P D vwCl (wM cI cZ am v' ++ wL cI cZ cJ ad o f u') H := hP.sub [36, 37, 38, 39, 40, 41, 42, 43, 44, 45, 46, 47, 48, 49, 50, 51, 52, 53, 54, 55, 56, 57, 58, 59, 0, 1, 2, 3, 4, 5, 6, 7, 8, 9, 10, 11, 12, 13, 14, 15, 16, 17, 18, 19, 20, 21, 22, 23, 24, 25, 26, 27, 28, 29, 30, 31, 32, 33, 34, 35] rfl
        replace hD : va_D (fun q : Nat => s.heap.size ≤ q) (wM cI cZ am v' ++ wL cI cZ cJ ad o f u') := hD.sub [36, 37, 38, 39, 40, 41, 42, 43, 44, 45, 46, 47, 48, 49, 50, 51, 52, 53, 54, 55, 56, 57, 58, 59, 0, 1, 2, 3, 4, 5, 6, 7, 8, 9, 10, 11, 12, 13, 14, 15, 16, 17, 18, 19, 20, 21, 22, 23, 24, 25, 26, 27, 28, 29, 30, 31, 32, 33, 34, 35] (by decide) rfl
        refine lv_iload hx hb dL_law_1403 (lv_at hl 1 rfl) ?_
        refine lv_icmp_eq (tgt := 1410) hx hb dL_law_1405 (by decide) (fun _ => ?_) (fun c1 => absurd ht c1)
        refine lv_iload hx hb dL_law_1410 (lv_at hl 1 rfl) ?_
        refine lv_if_ne (tgt := 1427) hx hb dL_law_1412 (by decide) (fun _ => ?_) (fun c1 => absurd c1 (by decide))
        refine lv_goto (tgt := 1764) hx hb dL_law_1427 (by decide) ?_
        exact kk _ _ _ _ _ ls hrel hP hD hS (lv_sub hl [2, 3, 4, 5, 6] rfl)
      · exact absurd hq List.not_mem_nil

set_option maxHeartbeats 4000000 in
set_option maxRecDepth 100000 in
theorem lc_works {p : Program} {l : Launch} {e : Env} {s : State} {m : MethodId} {below : List Frame} {meth : Method} {c : Code} {b L : Nat} {xs : Nat → Int32} (hl0 : l.stackTraces = false) (C0 : lw_At p s m meth c b L xs) (hZ : cst (fun q : Nat => s.heap.size ≤ q) s) {D : va_G} {cI cZ cJ : ClassId} (hK : va_K D vwCl [(cI, .int), (cZ, .boolean), (cJ, .long)] s) {Rel : GS → MS → Prop} {am ad : Nat → Nat} {o : Nat} {f : Nat → Int64} {u : GS} {v : MS} {i : Int32} {j : Nat} (hj : j ≤ 511) (hi : lin i L) {p1 : Int32} (hp1 : xs (i + 1).toNatClampNeg = p1) {p2 : Int32} (hp2 : xs (i + 2).toNatClampNeg = p2) {p3 : Int32} (hp3 : xs (i + 3).toNatClampNeg = p3) {p4 : Int32} (hp4 : xs (i + 4).toNatClampNeg = p4) {p5 : Int32} (hp5 : xs (i + 5).toNatClampNeg = p5) (hsim : SI Rel (g_X9_works u p1 p2 p3 p4 p5) (g_X10_works v p1 p2 p3 p4 p5) [("java/lang/IndexOutOfBoundsException", 1), ("java/lang/IllegalArgumentException", 2), ("java/lang/IllegalStateException", 3)]) {H : Heap} {locs : List Loc} {ls : Array Slot} (hP : va_P D vwCl (wM cI cZ am v ++ wL cI cZ cJ ad o f u) H) (hD : va_D (fun q : Nat => s.heap.size ≤ q) (wM cI cZ am v ++ wL cI cZ cJ ad o f u)) (hS : va_S (fun q : Nat => s.heap.size ≤ q) s.heap H locs) (hl : lv_has ls 7 [(0, .ref b), (1, .ref (ad 0)), (2, .ref (am 0)), (3, .ref o), (4, .int i)]) (kk : ∀ (u' : GS) (v' : MS) (f' : Nat → Int64) (H : Heap) (locs : List Loc) (ls : Array Slot), Rel u' v' → va_P D vwCl (wM cI cZ am v' ++ wL cI cZ cJ ad o f' u') H → va_D (fun q : Nat => s.heap.size ≤ q) (wM cI cZ am v' ++ wL cI cZ cJ ad o f' u') → va_S (fun q : Nat => s.heap.size ≤ q) s.heap H locs → lv_has ls 7 [(0, .ref b), (1, .ref (ad 0)), (2, .ref (am 0)), (3, .ref o), (4, .int i)] → W p l e room_1 s m #[Value.ref b] below meth c H locs (60 + (j + 1)) (5141 + 6 * (j + 1)) (lw_Z below #[Value.ref b] s) (F0 m 1764 ls [])) : W p l e room_1 s m #[Value.ref b] below meth c H locs (60 + j) (5141 + 6 * j) (lw_Z below #[Value.ref b] s) (F0 m 1430 ls []) := by
  obtain ⟨hx, hb, hr, hml, hown, hts0, hX, hbl, hlocks, hgv⟩ := id C0
  have hts : ∀ w ∈ Wall, w.before #[Value.ref b] s = true := fun w h => hts0 w (wall_tbl w h)
  have hA : ∀ q : Nat, s.heap.size ≤ q → (fun q : Nat => s.heap.size ≤ q) q := fun _ h => h
  have hbA : ¬ (fun q : Nat => s.heap.size ≤ q) b := Nat.not_le.mpr hbl
  obtain ⟨-, hi1, hi2, hi3, hi4, hi5⟩ := hi
  rcases hsim with ⟨r, u', v', hc, hm, ht, hrel⟩ | ⟨q, u', b9, v', hq, hc, hm, ht, hrel⟩
  · refine lv_aload_n hx hb dL_law_1430 rfl (lv_at hl 1 rfl) ?_
    refine lv_aload_n hx hb dL_law_1431 rfl (lv_at hl 0 rfl) ?_
    refine lv_iload hx hb dL_law_1432 (lv_at hl 4 rfl) ?_
    refine lv_iconst (v := 1) hx hb dL_law_1434 (by decide) ?_
    refine lv_iadd hx hb dL_law_1435 ?_
    refine va_sld hx hb hX hbl hbA hS hi1 dL_law_1436 ?_
    refine lv_topn hp1 ?_
    refine lv_aload_n hx hb dL_law_1437 rfl (lv_at hl 0 rfl) ?_
    refine lv_iload hx hb dL_law_1438 (lv_at hl 4 rfl) ?_
    refine lv_iconst (v := 2) hx hb dL_law_1440 (by decide) ?_
    refine lv_iadd hx hb dL_law_1441 ?_
    refine va_sld hx hb hX hbl hbA hS hi2 dL_law_1442 ?_
    refine lv_topn hp2 ?_
    refine lv_aload_n hx hb dL_law_1443 rfl (lv_at hl 0 rfl) ?_
    refine lv_iload hx hb dL_law_1444 (lv_at hl 4 rfl) ?_
    refine lv_iconst (v := 3) hx hb dL_law_1446 (by decide) ?_
    refine lv_iadd hx hb dL_law_1447 ?_
    refine va_sld hx hb hX hbl hbA hS hi3 dL_law_1448 ?_
    refine lv_topn hp3 ?_
    refine lv_aload_n hx hb dL_law_1449 rfl (lv_at hl 0 rfl) ?_
    refine lv_iload hx hb dL_law_1450 (lv_at hl 4 rfl) ?_
    refine lv_iconst (v := 4) hx hb dL_law_1452 (by decide) ?_
    refine lv_iadd hx hb dL_law_1453 ?_
    refine va_sld hx hb hX hbl hbA hS hi4 dL_law_1454 ?_
    refine lv_topn hp4 ?_
    refine lv_aload_n hx hb dL_law_1455 rfl (lv_at hl 0 rfl) ?_
    refine lv_iload hx hb dL_law_1456 (lv_at hl 4 rfl) ?_
    refine lv_iconst (v := 5) hx hb dL_law_1458 (by decide) ?_
    refine lv_iadd hx hb dL_law_1459 ?_
    refine va_sld hx hb hX hbl hbA hS hi5 dL_law_1460 ?_
    refine lv_topn hp5 ?_
    refine lv_aload_n hx hb dL_law_1461 rfl (lv_at hl 3 rfl) ?_
    refine cc_iSHF (As := [.ref (ad 0), .int p1, .int p2, .int p3, .int p4, .int p5, .ref o]) (rest := []) (wr := wM cI cZ am v) ⟨hx, hb, hml, hown, hts⟩ (k_L_works l D cI cZ cJ ad o f u p1 p2 p3 p4 p5 hc) (vx_cwSW 7 hts (gwSH mw_777 mw_778 mw_47 mw_779) rfl rfl rfl (by decide +kernel) ⟨(Nat.le_of_ble_eq_true rfl), (Nat.le_of_ble_eq_true rfl)⟩) hK hP hD hS hA hZ [24, 25, 26, 27, 28, 29, 30, 31, 32, 33, 34, 35, 36, 37, 38, 39, 40, 41, 42, 43, 44, 45, 46, 47, 48, 49, 50, 51, 52, 53, 54, 55, 56, 57, 58, 59] [0, 1, 2, 3, 4, 5, 6, 7, 8, 9, 10, 11, 12, 13, 14, 15, 16, 17, 18, 19, 20, 21, 22, 23] rfl rfl (by decide) rfl (by decide) (by decide) rfl hl.1 rfl (Nat.le_of_ble_eq_true rfl) dL_law_1462 ⟨by show 60 + j ≤ 1087; omega, by show 5141 + 6 * j ≤ 13351; omega⟩ (fun H locs hP hD hS => ?_)
    replace hP : va_P D vwCl (wM cI cZ am v ++ wL cI cZ cJ ad o (vp_updL f (0 : Int32).toNatClampNeg r.toInt64) u') H := hP
    replace hD : va_D (fun q : Nat => s.heap.size ≤ q) (wM cI cZ am v ++ wL cI cZ cJ ad o (vp_updL f (0 : Int32).toNatClampNeg r.toInt64) u') := hD
    refine W.widen (k := 60 + (j + 1)) (n := 5141 + 6 * (j + 1)) (by omega) (by omega) ?_
    refine lv_istore (lv' := [(5, .int 0), (0, .ref b), (1, .ref (ad 0)), (2, .ref (am 0)), (3, .ref o), (4, .int i)]) hx hb dL_law_1465 hl (by decide) rfl (fun ls hl => ?_)
    refine lv_aload_n hx hb dL_law_1467 rfl (lv_at hl 3 rfl) ?_
    refine lv_aload_n hx hb dL_law_1468 rfl (lv_at hl 1 rfl) ?_
    refine lv_iload hx hb dL_law_1469 (lv_at hl 5 rfl) ?_
    refine lv_iconst (v := 1) hx hb dL_law_1471 (by decide) ?_
    refine lv_iadd hx hb dL_law_1472 ?_
    refine va_sld hx hb hX hbl hbA hS hi1 dL_law_1473 ?_
    refine lv_topn hp1 ?_
    refine lv_aload_n hx hb dL_law_1474 rfl (lv_at hl 1 rfl) ?_
    refine lv_iload hx hb dL_law_1475 (lv_at hl 5 rfl) ?_
    refine lv_iconst (v := 2) hx hb dL_law_1477 (by decide) ?_
    refine lv_iadd hx hb dL_law_1478 ?_
    refine va_sld hx hb hX hbl hbA hS hi2 dL_law_1479 ?_
    refine lv_topn hp2 ?_
    refine lv_aload_n hx hb dL_law_1480 rfl (lv_at hl 1 rfl) ?_
    refine lv_iload hx hb dL_law_1481 (lv_at hl 5 rfl) ?_
    refine lv_iconst (v := 3) hx hb dL_law_1483 (by decide) ?_
    refine lv_iadd hx hb dL_law_1484 ?_
    refine va_sld hx hb hX hbl hbA hS hi3 dL_law_1485 ?_
    refine lv_topn hp3 ?_
    refine lv_aload_n hx hb dL_law_1486 rfl (lv_at hl 1 rfl) ?_
    refine lv_iload hx hb dL_law_1487 (lv_at hl 5 rfl) ?_
    refine lv_iconst (v := 4) hx hb dL_law_1489 (by decide) ?_
    refine lv_iadd hx hb dL_law_1490 ?_
    refine va_sld hx hb hX hbl hbA hS hi4 dL_law_1491 ?_
    refine lv_topn hp4 ?_
    refine lv_aload_n hx hb dL_law_1492 rfl (lv_at hl 1 rfl) ?_
    refine lv_iload hx hb dL_law_1493 (lv_at hl 5 rfl) ?_
    refine lv_iconst (v := 5) hx hb dL_law_1495 (by decide) ?_
    refine lv_iadd hx hb dL_law_1496 ?_
    refine va_sld hx hb hX hbl hbA hS hi5 dL_law_1497 ?_
    refine lv_topn hp5 ?_
    refine cc_iVF (As := [.int p1, .int p2, .int p3, .int p4, .int p5]) (rest := []) (wr := wL cI cZ cJ ad o (vp_updL f (0 : Int32).toNatClampNeg r.toInt64) u') ⟨hx, hb, hml, hown, hts⟩ (k_X10_works l D cI cZ am v p1 p2 p3 p4 p5 hm) (cwV 5 hts (gwV mw_1145 mw_1146 mw_1147 mw_59 mw_1148) rfl rfl rfl (by decide +kernel) ⟨(Nat.le_of_ble_eq_true rfl), (Nat.le_of_ble_eq_true rfl)⟩) (hK.sub [0, 1] rfl) hP hD hS hA hZ [0, 1, 2, 3, 4, 5, 6, 7, 8, 9, 10, 11, 12, 13, 14, 15, 16, 17, 18, 19, 20, 21, 22, 23] [24, 25, 26, 27, 28, 29, 30, 31, 32, 33, 34, 35, 36, 37, 38, 39, 40, 41, 42, 43, 44, 45, 46, 47, 48, 49, 50, 51, 52, 53, 54, 55, 56, 57, 58, 59] rfl rfl (by decide) rfl (by decide) (by decide) (ci := 10) (q0 := 0) rfl rfl rfl hl.1 rfl (Nat.le_of_ble_eq_true rfl) dL_law_1498 ⟨by show 60 + (j + 1) ≤ 1087; omega, by show 5141 + 6 * (j + 1) ≤ 13351; omega⟩ (fun H locs hP hD hS => ?_)
    replace hP : va_P D vwCl (wM cI cZ am v' ++ wL cI cZ cJ ad o (vp_updL f (0 : Int32).toNatClampNeg r.toInt64) u') H := hP.sub [36, 37, 38, 39, 40, 41, 42, 43, 44, 45, 46, 47, 48, 49, 50, 51, 52, 53, 54, 55, 56, 57, 58, 59, 0, 1, 2, 3, 4, 5, 6, 7, 8, 9, 10, 11, 12, 13, 14, 15, 16, 17, 18, 19, 20, 21, 22, 23, 24, 25, 26, 27, 28, 29, 30, 31, 32, 33, 34, 35] rfl
    replace hD : va_D (fun q : Nat => s.heap.size ≤ q) (wM cI cZ am v' ++ wL cI cZ cJ ad o (vp_updL f (0 : Int32).toNatClampNeg r.toInt64) u') := hD.sub [36, 37, 38, 39, 40, 41, 42, 43, 44, 45, 46, 47, 48, 49, 50, 51, 52, 53, 54, 55, 56, 57, 58, 59, 0, 1, 2, 3, 4, 5, 6, 7, 8, 9, 10, 11, 12, 13, 14, 15, 16, 17, 18, 19, 20, 21, 22, 23, 24, 25, 26, 27, 28, 29, 30, 31, 32, 33, 34, 35] (by decide) rfl
    refine lv_istore (lv' := [(6, .int r), (5, .int 0), (0, .ref b), (1, .ref (ad 0)), (2, .ref (am 0)), (3, .ref o), (4, .int i)]) hx hb dL_law_1501 hl (by decide) rfl (fun ls hl => ?_)
    refine lv_aload_n hx hb dL_law_1503 rfl (lv_at hl 4 rfl) ?_
    refine cc_iVF (As := []) (rest := []) (wr := wL cI cZ cJ ad o (vp_updL f (0 : Int32).toNatClampNeg r.toInt64) u') ⟨hx, hb, hml, hown, hts⟩ (k_X10_thrown l D cI cZ am v' rfl) (cwV 0 hts (gwV mw_968 mw_969 mw_970 mw_59 mw_971) rfl rfl rfl (by decide +kernel) ⟨(Nat.le_of_ble_eq_true rfl), (Nat.le_of_ble_eq_true rfl)⟩) (hK.sub [0, 1] rfl) hP hD hS hA hZ [0, 1, 2, 3, 4, 5, 6, 7, 8, 9, 10, 11, 12, 13, 14, 15, 16, 17, 18, 19, 20, 21, 22, 23] [24, 25, 26, 27, 28, 29, 30, 31, 32, 33, 34, 35, 36, 37, 38, 39, 40, 41, 42, 43, 44, 45, 46, 47, 48, 49, 50, 51, 52, 53, 54, 55, 56, 57, 58, 59] rfl rfl (by decide) rfl (by decide) (by decide) (ci := 10) (q0 := 0) rfl rfl rfl hl.1 rfl (Nat.le_of_ble_eq_true rfl) dL_law_1504 ⟨by show 60 + (j + 1) ≤ 1087; omega, by show 5141 + 6 * (j + 1) ≤ 13351; omega⟩ (fun H locs hP hD hS => ?_)
    replace hP : va_P D vwCl (wM cI cZ am v' ++ wL cI cZ cJ ad o (vp_updL f (0 : Int32).toNatClampNeg r.toInt64) u') H := hP.sub [36, 37, 38, 39, 40, 41, 42, 43, 44, 45, 46, 47, 48, 49, 50, 51, 52, 53, 54, 55, 56, 57, 58, 59, 0, 1, 2, 3, 4, 5, 6, 7, 8, 9, 10, 11, 12, 13, 14, 15, 16, 17, 18, 19, 20, 21, 22, 23, 24, 25, 26, 27, 28, 29, 30, 31, 32, 33, 34, 35] rfl
    replace hD : va_D (fun q : Nat => s.heap.size ≤ q) (wM cI cZ am v' ++ wL cI cZ cJ ad o (vp_updL f (0 : Int32).toNatClampNeg r.toInt64) u') := hD.sub [36, 37, 38, 39, 40, 41, 42, 43, 44, 45, 46, 47, 48, 49, 50, 51, 52, 53, 54, 55, 56, 57, 58, 59, 0, 1, 2, 3, 4, 5, 6, 7, 8, 9, 10, 11, 12, 13, 14, 15, 16, 17, 18, 19, 20, 21, 22, 23, 24, 25, 26, 27, 28, 29, 30, 31, 32, 33, 34, 35] (by decide) rfl
    refine lv_iload hx hb dL_law_1507 (lv_at hl 1 rfl) ?_
    refine lv_icmp_eq (tgt := 1514) hx hb dL_law_1509 (by decide) (fun _ => ?_) (fun c1 => absurd ht c1)
    refine lv_iload hx hb dL_law_1514 (lv_at hl 1 rfl) ?_
    refine lv_if_ne (tgt := 1531) hx hb dL_law_1516 (by decide) (fun c1 => absurd rfl c1) (fun _ => ?_)
    refine lv_aload_n hx hb dL_law_1519 rfl (lv_at hl 5 rfl) ?_
    refine lv_iconst (v := 0) hx hb dL_law_1520 (by decide) ?_
    refine va_lald (D := D) hx hb hK hP 24 2 rfl rfl (by unfold vp_in; decide) dL_law_1521 ?_
    refine lv_iload hx hb dL_law_1522 (lv_at hl 0 rfl) ?_
    refine lv_i2l (v := r.toInt64) hx hb dL_law_1524 rfl ?_
    refine W.lcmp hx hb dL_law_1525 ?_
    refine lv_if_eq (tgt := 1531) hx hb dL_law_1526 (by decide) (fun _ => ?_) (fun c2 => absurd (by simp [lg_cmp, vp_updL]) c2)
    refine lv_goto (tgt := 1764) hx hb dL_law_1531 (by decide) ?_
    exact kk _ _ _ _ _ ls hrel hP hD hS (lv_sub hl [2, 3, 4, 5, 6] rfl)
  · rcases List.mem_cons.mp hq with rfl | hq
    · refine lv_aload_n hx hb dL_law_1430 rfl (lv_at hl 1 rfl) ?_
      refine lv_aload_n hx hb dL_law_1431 rfl (lv_at hl 0 rfl) ?_
      refine lv_iload hx hb dL_law_1432 (lv_at hl 4 rfl) ?_
      refine lv_iconst (v := 1) hx hb dL_law_1434 (by decide) ?_
      refine lv_iadd hx hb dL_law_1435 ?_
      refine va_sld hx hb hX hbl hbA hS hi1 dL_law_1436 ?_
      refine lv_topn hp1 ?_
      refine lv_aload_n hx hb dL_law_1437 rfl (lv_at hl 0 rfl) ?_
      refine lv_iload hx hb dL_law_1438 (lv_at hl 4 rfl) ?_
      refine lv_iconst (v := 2) hx hb dL_law_1440 (by decide) ?_
      refine lv_iadd hx hb dL_law_1441 ?_
      refine va_sld hx hb hX hbl hbA hS hi2 dL_law_1442 ?_
      refine lv_topn hp2 ?_
      refine lv_aload_n hx hb dL_law_1443 rfl (lv_at hl 0 rfl) ?_
      refine lv_iload hx hb dL_law_1444 (lv_at hl 4 rfl) ?_
      refine lv_iconst (v := 3) hx hb dL_law_1446 (by decide) ?_
      refine lv_iadd hx hb dL_law_1447 ?_
      refine va_sld hx hb hX hbl hbA hS hi3 dL_law_1448 ?_
      refine lv_topn hp3 ?_
      refine lv_aload_n hx hb dL_law_1449 rfl (lv_at hl 0 rfl) ?_
      refine lv_iload hx hb dL_law_1450 (lv_at hl 4 rfl) ?_
      refine lv_iconst (v := 4) hx hb dL_law_1452 (by decide) ?_
      refine lv_iadd hx hb dL_law_1453 ?_
      refine va_sld hx hb hX hbl hbA hS hi4 dL_law_1454 ?_
      refine lv_topn hp4 ?_
      refine lv_aload_n hx hb dL_law_1455 rfl (lv_at hl 0 rfl) ?_
      refine lv_iload hx hb dL_law_1456 (lv_at hl 4 rfl) ?_
      refine lv_iconst (v := 5) hx hb dL_law_1458 (by decide) ?_
      refine lv_iadd hx hb dL_law_1459 ?_
      refine va_sld hx hb hX hbl hbA hS hi5 dL_law_1460 ?_
      refine lv_topn hp5 ?_
      refine lv_aload_n hx hb dL_law_1461 rfl (lv_at hl 3 rfl) ?_
      refine cc_iSHF (As := [.ref (ad 0), .int p1, .int p2, .int p3, .int p4, .int p5, .ref o]) (rest := []) (wr := wM cI cZ am v) ⟨hx, hb, hml, hown, hts⟩ (kx1_L_works l hl0 D cI cZ cJ ad o f u p1 p2 p3 p4 p5 hc) (vx_cwSW 7 hts (gwSH mw_777 mw_778 mw_47 mw_779) rfl rfl rfl (by decide +kernel) ⟨(Nat.le_of_ble_eq_true rfl), (Nat.le_of_ble_eq_true rfl)⟩) hK hP hD hS hA hZ [24, 25, 26, 27, 28, 29, 30, 31, 32, 33, 34, 35, 36, 37, 38, 39, 40, 41, 42, 43, 44, 45, 46, 47, 48, 49, 50, 51, 52, 53, 54, 55, 56, 57, 58, 59] [0, 1, 2, 3, 4, 5, 6, 7, 8, 9, 10, 11, 12, 13, 14, 15, 16, 17, 18, 19, 20, 21, 22, 23] rfl rfl (by decide) rfl (by decide) (by decide) rfl hl.1 rfl (Nat.le_of_ble_eq_true rfl) dL_law_1462 ⟨by show 60 + j + 1 ≤ 1087; omega, by show 5141 + 6 * j + 6 ≤ 13351; omega⟩ (fun H locs hP hD hS => ?_)
      replace hP : va_P D vwCl (wM cI cZ am v ++ wL cI cZ cJ ad o f u') H := hP
      replace hD : va_D (fun q : Nat => s.heap.size ≤ q) (wM cI cZ am v ++ wL cI cZ cJ ad o f u') := hD
      refine W.widen (k := 60 + (j + 1)) (n := 5141 + 6 * (j + 1)) (by omega) (by omega) ?_
      refine lv_istore (lv' := [(5, .int 1), (0, .ref b), (1, .ref (ad 0)), (2, .ref (am 0)), (3, .ref o), (4, .int i)]) hx hb dL_law_1465 hl (by decide) rfl (fun ls hl => ?_)
      refine lv_aload_n hx hb dL_law_1467 rfl (lv_at hl 3 rfl) ?_
      refine lv_aload_n hx hb dL_law_1468 rfl (lv_at hl 1 rfl) ?_
      refine lv_iload hx hb dL_law_1469 (lv_at hl 5 rfl) ?_
      refine lv_iconst (v := 1) hx hb dL_law_1471 (by decide) ?_
      refine lv_iadd hx hb dL_law_1472 ?_
      refine va_sld hx hb hX hbl hbA hS hi1 dL_law_1473 ?_
      refine lv_topn hp1 ?_
      refine lv_aload_n hx hb dL_law_1474 rfl (lv_at hl 1 rfl) ?_
      refine lv_iload hx hb dL_law_1475 (lv_at hl 5 rfl) ?_
      refine lv_iconst (v := 2) hx hb dL_law_1477 (by decide) ?_
      refine lv_iadd hx hb dL_law_1478 ?_
      refine va_sld hx hb hX hbl hbA hS hi2 dL_law_1479 ?_
      refine lv_topn hp2 ?_
      refine lv_aload_n hx hb dL_law_1480 rfl (lv_at hl 1 rfl) ?_
      refine lv_iload hx hb dL_law_1481 (lv_at hl 5 rfl) ?_
      refine lv_iconst (v := 3) hx hb dL_law_1483 (by decide) ?_
      refine lv_iadd hx hb dL_law_1484 ?_
      refine va_sld hx hb hX hbl hbA hS hi3 dL_law_1485 ?_
      refine lv_topn hp3 ?_
      refine lv_aload_n hx hb dL_law_1486 rfl (lv_at hl 1 rfl) ?_
      refine lv_iload hx hb dL_law_1487 (lv_at hl 5 rfl) ?_
      refine lv_iconst (v := 4) hx hb dL_law_1489 (by decide) ?_
      refine lv_iadd hx hb dL_law_1490 ?_
      refine va_sld hx hb hX hbl hbA hS hi4 dL_law_1491 ?_
      refine lv_topn hp4 ?_
      refine lv_aload_n hx hb dL_law_1492 rfl (lv_at hl 1 rfl) ?_
      refine lv_iload hx hb dL_law_1493 (lv_at hl 5 rfl) ?_
      refine lv_iconst (v := 5) hx hb dL_law_1495 (by decide) ?_
      refine lv_iadd hx hb dL_law_1496 ?_
      refine va_sld hx hb hX hbl hbA hS hi5 dL_law_1497 ?_
      refine lv_topn hp5 ?_
      refine cc_iVF (As := [.int p1, .int p2, .int p3, .int p4, .int p5]) (rest := []) (wr := wL cI cZ cJ ad o f u') ⟨hx, hb, hml, hown, hts⟩ (k_X10_works l D cI cZ am v p1 p2 p3 p4 p5 hm) (cwV 5 hts (gwV mw_1145 mw_1146 mw_1147 mw_59 mw_1148) rfl rfl rfl (by decide +kernel) ⟨(Nat.le_of_ble_eq_true rfl), (Nat.le_of_ble_eq_true rfl)⟩) (hK.sub [0, 1] rfl) hP hD hS hA hZ [0, 1, 2, 3, 4, 5, 6, 7, 8, 9, 10, 11, 12, 13, 14, 15, 16, 17, 18, 19, 20, 21, 22, 23] [24, 25, 26, 27, 28, 29, 30, 31, 32, 33, 34, 35, 36, 37, 38, 39, 40, 41, 42, 43, 44, 45, 46, 47, 48, 49, 50, 51, 52, 53, 54, 55, 56, 57, 58, 59] rfl rfl (by decide) rfl (by decide) (by decide) (ci := 10) (q0 := 0) rfl rfl rfl hl.1 rfl (Nat.le_of_ble_eq_true rfl) dL_law_1498 ⟨by show 60 + (j + 1) ≤ 1087; omega, by show 5141 + 6 * (j + 1) ≤ 13351; omega⟩ (fun H locs hP hD hS => ?_)
      replace hP : va_P D vwCl (wM cI cZ am v' ++ wL cI cZ cJ ad o f u') H := hP.sub [36, 37, 38, 39, 40, 41, 42, 43, 44, 45, 46, 47, 48, 49, 50, 51, 52, 53, 54, 55, 56, 57, 58, 59, 0, 1, 2, 3, 4, 5, 6, 7, 8, 9, 10, 11, 12, 13, 14, 15, 16, 17, 18, 19, 20, 21, 22, 23, 24, 25, 26, 27, 28, 29, 30, 31, 32, 33, 34, 35] rfl
      replace hD : va_D (fun q : Nat => s.heap.size ≤ q) (wM cI cZ am v' ++ wL cI cZ cJ ad o f u') := hD.sub [36, 37, 38, 39, 40, 41, 42, 43, 44, 45, 46, 47, 48, 49, 50, 51, 52, 53, 54, 55, 56, 57, 58, 59, 0, 1, 2, 3, 4, 5, 6, 7, 8, 9, 10, 11, 12, 13, 14, 15, 16, 17, 18, 19, 20, 21, 22, 23, 24, 25, 26, 27, 28, 29, 30, 31, 32, 33, 34, 35] (by decide) rfl
      refine lv_istore (lv' := [(6, .int b9), (5, .int 1), (0, .ref b), (1, .ref (ad 0)), (2, .ref (am 0)), (3, .ref o), (4, .int i)]) hx hb dL_law_1501 hl (by decide) rfl (fun ls hl => ?_)
      refine lv_aload_n hx hb dL_law_1503 rfl (lv_at hl 4 rfl) ?_
      refine cc_iVF (As := []) (rest := []) (wr := wL cI cZ cJ ad o f u') ⟨hx, hb, hml, hown, hts⟩ (k_X10_thrown l D cI cZ am v' rfl) (cwV 0 hts (gwV mw_968 mw_969 mw_970 mw_59 mw_971) rfl rfl rfl (by decide +kernel) ⟨(Nat.le_of_ble_eq_true rfl), (Nat.le_of_ble_eq_true rfl)⟩) (hK.sub [0, 1] rfl) hP hD hS hA hZ [0, 1, 2, 3, 4, 5, 6, 7, 8, 9, 10, 11, 12, 13, 14, 15, 16, 17, 18, 19, 20, 21, 22, 23] [24, 25, 26, 27, 28, 29, 30, 31, 32, 33, 34, 35, 36, 37, 38, 39, 40, 41, 42, 43, 44, 45, 46, 47, 48, 49, 50, 51, 52, 53, 54, 55, 56, 57, 58, 59] rfl rfl (by decide) rfl (by decide) (by decide) (ci := 10) (q0 := 0) rfl rfl rfl hl.1 rfl (Nat.le_of_ble_eq_true rfl) dL_law_1504 ⟨by show 60 + (j + 1) ≤ 1087; omega, by show 5141 + 6 * (j + 1) ≤ 13351; omega⟩ (fun H locs hP hD hS => ?_)
      replace hP : va_P D vwCl (wM cI cZ am v' ++ wL cI cZ cJ ad o f u') H := hP.sub [36, 37, 38, 39, 40, 41, 42, 43, 44, 45, 46, 47, 48, 49, 50, 51, 52, 53, 54, 55, 56, 57, 58, 59, 0, 1, 2, 3, 4, 5, 6, 7, 8, 9, 10, 11, 12, 13, 14, 15, 16, 17, 18, 19, 20, 21, 22, 23, 24, 25, 26, 27, 28, 29, 30, 31, 32, 33, 34, 35] rfl
      replace hD : va_D (fun q : Nat => s.heap.size ≤ q) (wM cI cZ am v' ++ wL cI cZ cJ ad o f u') := hD.sub [36, 37, 38, 39, 40, 41, 42, 43, 44, 45, 46, 47, 48, 49, 50, 51, 52, 53, 54, 55, 56, 57, 58, 59, 0, 1, 2, 3, 4, 5, 6, 7, 8, 9, 10, 11, 12, 13, 14, 15, 16, 17, 18, 19, 20, 21, 22, 23, 24, 25, 26, 27, 28, 29, 30, 31, 32, 33, 34, 35] (by decide) rfl
      refine lv_iload hx hb dL_law_1507 (lv_at hl 1 rfl) ?_
      refine lv_icmp_eq (tgt := 1514) hx hb dL_law_1509 (by decide) (fun _ => ?_) (fun c1 => absurd ht c1)
      refine lv_iload hx hb dL_law_1514 (lv_at hl 1 rfl) ?_
      refine lv_if_ne (tgt := 1531) hx hb dL_law_1516 (by decide) (fun _ => ?_) (fun c1 => absurd c1 (by decide))
      refine lv_goto (tgt := 1764) hx hb dL_law_1531 (by decide) ?_
      exact kk _ _ _ _ _ ls hrel hP hD hS (lv_sub hl [2, 3, 4, 5, 6] rfl)
    · rcases List.mem_cons.mp hq with rfl | hq
      · refine lv_aload_n hx hb dL_law_1430 rfl (lv_at hl 1 rfl) ?_
        refine lv_aload_n hx hb dL_law_1431 rfl (lv_at hl 0 rfl) ?_
        refine lv_iload hx hb dL_law_1432 (lv_at hl 4 rfl) ?_
        refine lv_iconst (v := 1) hx hb dL_law_1434 (by decide) ?_
        refine lv_iadd hx hb dL_law_1435 ?_
        refine va_sld hx hb hX hbl hbA hS hi1 dL_law_1436 ?_
        refine lv_topn hp1 ?_
        refine lv_aload_n hx hb dL_law_1437 rfl (lv_at hl 0 rfl) ?_
        refine lv_iload hx hb dL_law_1438 (lv_at hl 4 rfl) ?_
        refine lv_iconst (v := 2) hx hb dL_law_1440 (by decide) ?_
        refine lv_iadd hx hb dL_law_1441 ?_
        refine va_sld hx hb hX hbl hbA hS hi2 dL_law_1442 ?_
        refine lv_topn hp2 ?_
        refine lv_aload_n hx hb dL_law_1443 rfl (lv_at hl 0 rfl) ?_
        refine lv_iload hx hb dL_law_1444 (lv_at hl 4 rfl) ?_
        refine lv_iconst (v := 3) hx hb dL_law_1446 (by decide) ?_
        refine lv_iadd hx hb dL_law_1447 ?_
        refine va_sld hx hb hX hbl hbA hS hi3 dL_law_1448 ?_
        refine lv_topn hp3 ?_
        refine lv_aload_n hx hb dL_law_1449 rfl (lv_at hl 0 rfl) ?_
        refine lv_iload hx hb dL_law_1450 (lv_at hl 4 rfl) ?_
        refine lv_iconst (v := 4) hx hb dL_law_1452 (by decide) ?_
        refine lv_iadd hx hb dL_law_1453 ?_
        refine va_sld hx hb hX hbl hbA hS hi4 dL_law_1454 ?_
        refine lv_topn hp4 ?_
        refine lv_aload_n hx hb dL_law_1455 rfl (lv_at hl 0 rfl) ?_
        refine lv_iload hx hb dL_law_1456 (lv_at hl 4 rfl) ?_
        refine lv_iconst (v := 5) hx hb dL_law_1458 (by decide) ?_
        refine lv_iadd hx hb dL_law_1459 ?_
        refine va_sld hx hb hX hbl hbA hS hi5 dL_law_1460 ?_
        refine lv_topn hp5 ?_
        refine lv_aload_n hx hb dL_law_1461 rfl (lv_at hl 3 rfl) ?_
        refine cc_iSHF (As := [.ref (ad 0), .int p1, .int p2, .int p3, .int p4, .int p5, .ref o]) (rest := []) (wr := wM cI cZ am v) ⟨hx, hb, hml, hown, hts⟩ (kx2_L_works l hl0 D cI cZ cJ ad o f u p1 p2 p3 p4 p5 hc) (vx_cwSW 7 hts (gwSH mw_777 mw_778 mw_47 mw_779) rfl rfl rfl (by decide +kernel) ⟨(Nat.le_of_ble_eq_true rfl), (Nat.le_of_ble_eq_true rfl)⟩) hK hP hD hS hA hZ [24, 25, 26, 27, 28, 29, 30, 31, 32, 33, 34, 35, 36, 37, 38, 39, 40, 41, 42, 43, 44, 45, 46, 47, 48, 49, 50, 51, 52, 53, 54, 55, 56, 57, 58, 59] [0, 1, 2, 3, 4, 5, 6, 7, 8, 9, 10, 11, 12, 13, 14, 15, 16, 17, 18, 19, 20, 21, 22, 23] rfl rfl (by decide) rfl (by decide) (by decide) rfl hl.1 rfl (Nat.le_of_ble_eq_true rfl) dL_law_1462 ⟨by show 60 + j + 1 ≤ 1087; omega, by show 5141 + 6 * j + 6 ≤ 13351; omega⟩ (fun H locs hP hD hS => ?_)
        replace hP : va_P D vwCl (wM cI cZ am v ++ wL cI cZ cJ ad o f u') H := hP
        replace hD : va_D (fun q : Nat => s.heap.size ≤ q) (wM cI cZ am v ++ wL cI cZ cJ ad o f u') := hD
        refine W.widen (k := 60 + (j + 1)) (n := 5141 + 6 * (j + 1)) (by omega) (by omega) ?_
        refine lv_istore (lv' := [(5, .int 2), (0, .ref b), (1, .ref (ad 0)), (2, .ref (am 0)), (3, .ref o), (4, .int i)]) hx hb dL_law_1465 hl (by decide) rfl (fun ls hl => ?_)
        refine lv_aload_n hx hb dL_law_1467 rfl (lv_at hl 3 rfl) ?_
        refine lv_aload_n hx hb dL_law_1468 rfl (lv_at hl 1 rfl) ?_
        refine lv_iload hx hb dL_law_1469 (lv_at hl 5 rfl) ?_
        refine lv_iconst (v := 1) hx hb dL_law_1471 (by decide) ?_
        refine lv_iadd hx hb dL_law_1472 ?_
        refine va_sld hx hb hX hbl hbA hS hi1 dL_law_1473 ?_
        refine lv_topn hp1 ?_
        refine lv_aload_n hx hb dL_law_1474 rfl (lv_at hl 1 rfl) ?_
        refine lv_iload hx hb dL_law_1475 (lv_at hl 5 rfl) ?_
        refine lv_iconst (v := 2) hx hb dL_law_1477 (by decide) ?_
        refine lv_iadd hx hb dL_law_1478 ?_
        refine va_sld hx hb hX hbl hbA hS hi2 dL_law_1479 ?_
        refine lv_topn hp2 ?_
        refine lv_aload_n hx hb dL_law_1480 rfl (lv_at hl 1 rfl) ?_
        refine lv_iload hx hb dL_law_1481 (lv_at hl 5 rfl) ?_
        refine lv_iconst (v := 3) hx hb dL_law_1483 (by decide) ?_
        refine lv_iadd hx hb dL_law_1484 ?_
        refine va_sld hx hb hX hbl hbA hS hi3 dL_law_1485 ?_
        refine lv_topn hp3 ?_
        refine lv_aload_n hx hb dL_law_1486 rfl (lv_at hl 1 rfl) ?_
        refine lv_iload hx hb dL_law_1487 (lv_at hl 5 rfl) ?_
        refine lv_iconst (v := 4) hx hb dL_law_1489 (by decide) ?_
        refine lv_iadd hx hb dL_law_1490 ?_
        refine va_sld hx hb hX hbl hbA hS hi4 dL_law_1491 ?_
        refine lv_topn hp4 ?_
        refine lv_aload_n hx hb dL_law_1492 rfl (lv_at hl 1 rfl) ?_
        refine lv_iload hx hb dL_law_1493 (lv_at hl 5 rfl) ?_
        refine lv_iconst (v := 5) hx hb dL_law_1495 (by decide) ?_
        refine lv_iadd hx hb dL_law_1496 ?_
        refine va_sld hx hb hX hbl hbA hS hi5 dL_law_1497 ?_
        refine lv_topn hp5 ?_
        refine cc_iVF (As := [.int p1, .int p2, .int p3, .int p4, .int p5]) (rest := []) (wr := wL cI cZ cJ ad o f u') ⟨hx, hb, hml, hown, hts⟩ (k_X10_works l D cI cZ am v p1 p2 p3 p4 p5 hm) (cwV 5 hts (gwV mw_1145 mw_1146 mw_1147 mw_59 mw_1148) rfl rfl rfl (by decide +kernel) ⟨(Nat.le_of_ble_eq_true rfl), (Nat.le_of_ble_eq_true rfl)⟩) (hK.sub [0, 1] rfl) hP hD hS hA hZ [0, 1, 2, 3, 4, 5, 6, 7, 8, 9, 10, 11, 12, 13, 14, 15, 16, 17, 18, 19, 20, 21, 22, 23] [24, 25, 26, 27, 28, 29, 30, 31, 32, 33, 34, 35, 36, 37, 38, 39, 40, 41, 42, 43, 44, 45, 46, 47, 48, 49, 50, 51, 52, 53, 54, 55, 56, 57, 58, 59] rfl rfl (by decide) rfl (by decide) (by decide) (ci := 10) (q0 := 0) rfl rfl rfl hl.1 rfl (Nat.le_of_ble_eq_true rfl) dL_law_1498 ⟨by show 60 + (j + 1) ≤ 1087; omega, by show 5141 + 6 * (j + 1) ≤ 13351; omega⟩ (fun H locs hP hD hS => ?_)
        replace hP : va_P D vwCl (wM cI cZ am v' ++ wL cI cZ cJ ad o f u') H := hP.sub [36, 37, 38, 39, 40, 41, 42, 43, 44, 45, 46, 47, 48, 49, 50, 51, 52, 53, 54, 55, 56, 57, 58, 59, 0, 1, 2, 3, 4, 5, 6, 7, 8, 9, 10, 11, 12, 13, 14, 15, 16, 17, 18, 19, 20, 21, 22, 23, 24, 25, 26, 27, 28, 29, 30, 31, 32, 33, 34, 35] rfl
        replace hD : va_D (fun q : Nat => s.heap.size ≤ q) (wM cI cZ am v' ++ wL cI cZ cJ ad o f u') := hD.sub [36, 37, 38, 39, 40, 41, 42, 43, 44, 45, 46, 47, 48, 49, 50, 51, 52, 53, 54, 55, 56, 57, 58, 59, 0, 1, 2, 3, 4, 5, 6, 7, 8, 9, 10, 11, 12, 13, 14, 15, 16, 17, 18, 19, 20, 21, 22, 23, 24, 25, 26, 27, 28, 29, 30, 31, 32, 33, 34, 35] (by decide) rfl
        refine lv_istore (lv' := [(6, .int b9), (5, .int 2), (0, .ref b), (1, .ref (ad 0)), (2, .ref (am 0)), (3, .ref o), (4, .int i)]) hx hb dL_law_1501 hl (by decide) rfl (fun ls hl => ?_)
        refine lv_aload_n hx hb dL_law_1503 rfl (lv_at hl 4 rfl) ?_
        refine cc_iVF (As := []) (rest := []) (wr := wL cI cZ cJ ad o f u') ⟨hx, hb, hml, hown, hts⟩ (k_X10_thrown l D cI cZ am v' rfl) (cwV 0 hts (gwV mw_968 mw_969 mw_970 mw_59 mw_971) rfl rfl rfl (by decide +kernel) ⟨(Nat.le_of_ble_eq_true rfl), (Nat.le_of_ble_eq_true rfl)⟩) (hK.sub [0, 1] rfl) hP hD hS hA hZ [0, 1, 2, 3, 4, 5, 6, 7, 8, 9, 10, 11, 12, 13, 14, 15, 16, 17, 18, 19, 20, 21, 22, 23] [24, 25, 26, 27, 28, 29, 30, 31, 32, 33, 34, 35, 36, 37, 38, 39, 40, 41, 42, 43, 44, 45, 46, 47, 48, 49, 50, 51, 52, 53, 54, 55, 56, 57, 58, 59] rfl rfl (by decide) rfl (by decide) (by decide) (ci := 10) (q0 := 0) rfl rfl rfl hl.1 rfl (Nat.le_of_ble_eq_true rfl) dL_law_1504 ⟨by show 60 + (j + 1) ≤ 1087; omega, by show 5141 + 6 * (j + 1) ≤ 13351; omega⟩ (fun H locs hP hD hS => ?_)
        replace hP : va_P D vwCl (wM cI cZ am v' ++ wL cI cZ cJ ad o f u') H := hP.sub [36, 37, 38, 39, 40, 41, 42, 43, 44, 45, 46, 47, 48, 49, 50, 51, 52, 53, 54, 55, 56, 57, 58, 59, 0, 1, 2, 3, 4, 5, 6, 7, 8, 9, 10, 11, 12, 13, 14, 15, 16, 17, 18, 19, 20, 21, 22, 23, 24, 25, 26, 27, 28, 29, 30, 31, 32, 33, 34, 35] rfl
        replace hD : va_D (fun q : Nat => s.heap.size ≤ q) (wM cI cZ am v' ++ wL cI cZ cJ ad o f u') := hD.sub [36, 37, 38, 39, 40, 41, 42, 43, 44, 45, 46, 47, 48, 49, 50, 51, 52, 53, 54, 55, 56, 57, 58, 59, 0, 1, 2, 3, 4, 5, 6, 7, 8, 9, 10, 11, 12, 13, 14, 15, 16, 17, 18, 19, 20, 21, 22, 23, 24, 25, 26, 27, 28, 29, 30, 31, 32, 33, 34, 35] (by decide) rfl
        refine lv_iload hx hb dL_law_1507 (lv_at hl 1 rfl) ?_
        refine lv_icmp_eq (tgt := 1514) hx hb dL_law_1509 (by decide) (fun _ => ?_) (fun c1 => absurd ht c1)
        refine lv_iload hx hb dL_law_1514 (lv_at hl 1 rfl) ?_
        refine lv_if_ne (tgt := 1531) hx hb dL_law_1516 (by decide) (fun _ => ?_) (fun c1 => absurd c1 (by decide))
        refine lv_goto (tgt := 1764) hx hb dL_law_1531 (by decide) ?_
        exact kk _ _ _ _ _ ls hrel hP hD hS (lv_sub hl [2, 3, 4, 5, 6] rfl)
      · rcases List.mem_cons.mp hq with rfl | hq
        · refine lv_aload_n hx hb dL_law_1430 rfl (lv_at hl 1 rfl) ?_
          refine lv_aload_n hx hb dL_law_1431 rfl (lv_at hl 0 rfl) ?_
          refine lv_iload hx hb dL_law_1432 (lv_at hl 4 rfl) ?_
          refine lv_iconst (v := 1) hx hb dL_law_1434 (by decide) ?_
          refine lv_iadd hx hb dL_law_1435 ?_
          refine va_sld hx hb hX hbl hbA hS hi1 dL_law_1436 ?_
          refine lv_topn hp1 ?_
          refine lv_aload_n hx hb dL_law_1437 rfl (lv_at hl 0 rfl) ?_
          refine lv_iload hx hb dL_law_1438 (lv_at hl 4 rfl) ?_
          refine lv_iconst (v := 2) hx hb dL_law_1440 (by decide) ?_
          refine lv_iadd hx hb dL_law_1441 ?_
          refine va_sld hx hb hX hbl hbA hS hi2 dL_law_1442 ?_
          refine lv_topn hp2 ?_
          refine lv_aload_n hx hb dL_law_1443 rfl (lv_at hl 0 rfl) ?_
          refine lv_iload hx hb dL_law_1444 (lv_at hl 4 rfl) ?_
          refine lv_iconst (v := 3) hx hb dL_law_1446 (by decide) ?_
          refine lv_iadd hx hb dL_law_1447 ?_
          refine va_sld hx hb hX hbl hbA hS hi3 dL_law_1448 ?_
          refine lv_topn hp3 ?_
          refine lv_aload_n hx hb dL_law_1449 rfl (lv_at hl 0 rfl) ?_
          refine lv_iload hx hb dL_law_1450 (lv_at hl 4 rfl) ?_
          refine lv_iconst (v := 4) hx hb dL_law_1452 (by decide) ?_
          refine lv_iadd hx hb dL_law_1453 ?_
          refine va_sld hx hb hX hbl hbA hS hi4 dL_law_1454 ?_
          refine lv_topn hp4 ?_
          refine lv_aload_n hx hb dL_law_1455 rfl (lv_at hl 0 rfl) ?_
          refine lv_iload hx hb dL_law_1456 (lv_at hl 4 rfl) ?_
          refine lv_iconst (v := 5) hx hb dL_law_1458 (by decide) ?_
          refine lv_iadd hx hb dL_law_1459 ?_
          refine va_sld hx hb hX hbl hbA hS hi5 dL_law_1460 ?_
          refine lv_topn hp5 ?_
          refine lv_aload_n hx hb dL_law_1461 rfl (lv_at hl 3 rfl) ?_
          refine cc_iSHF (As := [.ref (ad 0), .int p1, .int p2, .int p3, .int p4, .int p5, .ref o]) (rest := []) (wr := wM cI cZ am v) ⟨hx, hb, hml, hown, hts⟩ (kx3_L_works l hl0 D cI cZ cJ ad o f u p1 p2 p3 p4 p5 hc) (vx_cwSW 7 hts (gwSH mw_777 mw_778 mw_47 mw_779) rfl rfl rfl (by decide +kernel) ⟨(Nat.le_of_ble_eq_true rfl), (Nat.le_of_ble_eq_true rfl)⟩) hK hP hD hS hA hZ [24, 25, 26, 27, 28, 29, 30, 31, 32, 33, 34, 35, 36, 37, 38, 39, 40, 41, 42, 43, 44, 45, 46, 47, 48, 49, 50, 51, 52, 53, 54, 55, 56, 57, 58, 59] [0, 1, 2, 3, 4, 5, 6, 7, 8, 9, 10, 11, 12, 13, 14, 15, 16, 17, 18, 19, 20, 21, 22, 23] rfl rfl (by decide) rfl (by decide) (by decide) rfl hl.1 rfl (Nat.le_of_ble_eq_true rfl) dL_law_1462 ⟨by show 60 + j + 1 ≤ 1087; omega, by show 5141 + 6 * j + 6 ≤ 13351; omega⟩ (fun H locs hP hD hS => ?_)
          replace hP : va_P D vwCl (wM cI cZ am v ++ wL cI cZ cJ ad o f u') H := hP
          replace hD : va_D (fun q : Nat => s.heap.size ≤ q) (wM cI cZ am v ++ wL cI cZ cJ ad o f u') := hD
          refine W.widen (k := 60 + (j + 1)) (n := 5141 + 6 * (j + 1)) (by omega) (by omega) ?_
          refine lv_istore (lv' := [(5, .int 3), (0, .ref b), (1, .ref (ad 0)), (2, .ref (am 0)), (3, .ref o), (4, .int i)]) hx hb dL_law_1465 hl (by decide) rfl (fun ls hl => ?_)
          refine lv_aload_n hx hb dL_law_1467 rfl (lv_at hl 3 rfl) ?_
          refine lv_aload_n hx hb dL_law_1468 rfl (lv_at hl 1 rfl) ?_
          refine lv_iload hx hb dL_law_1469 (lv_at hl 5 rfl) ?_
          refine lv_iconst (v := 1) hx hb dL_law_1471 (by decide) ?_
          refine lv_iadd hx hb dL_law_1472 ?_
          refine va_sld hx hb hX hbl hbA hS hi1 dL_law_1473 ?_
          refine lv_topn hp1 ?_
          refine lv_aload_n hx hb dL_law_1474 rfl (lv_at hl 1 rfl) ?_
          refine lv_iload hx hb dL_law_1475 (lv_at hl 5 rfl) ?_
          refine lv_iconst (v := 2) hx hb dL_law_1477 (by decide) ?_
          refine lv_iadd hx hb dL_law_1478 ?_
          refine va_sld hx hb hX hbl hbA hS hi2 dL_law_1479 ?_
          refine lv_topn hp2 ?_
          refine lv_aload_n hx hb dL_law_1480 rfl (lv_at hl 1 rfl) ?_
          refine lv_iload hx hb dL_law_1481 (lv_at hl 5 rfl) ?_
          refine lv_iconst (v := 3) hx hb dL_law_1483 (by decide) ?_
          refine lv_iadd hx hb dL_law_1484 ?_
          refine va_sld hx hb hX hbl hbA hS hi3 dL_law_1485 ?_
          refine lv_topn hp3 ?_
          refine lv_aload_n hx hb dL_law_1486 rfl (lv_at hl 1 rfl) ?_
          refine lv_iload hx hb dL_law_1487 (lv_at hl 5 rfl) ?_
          refine lv_iconst (v := 4) hx hb dL_law_1489 (by decide) ?_
          refine lv_iadd hx hb dL_law_1490 ?_
          refine va_sld hx hb hX hbl hbA hS hi4 dL_law_1491 ?_
          refine lv_topn hp4 ?_
          refine lv_aload_n hx hb dL_law_1492 rfl (lv_at hl 1 rfl) ?_
          refine lv_iload hx hb dL_law_1493 (lv_at hl 5 rfl) ?_
          refine lv_iconst (v := 5) hx hb dL_law_1495 (by decide) ?_
          refine lv_iadd hx hb dL_law_1496 ?_
          refine va_sld hx hb hX hbl hbA hS hi5 dL_law_1497 ?_
          refine lv_topn hp5 ?_
          refine cc_iVF (As := [.int p1, .int p2, .int p3, .int p4, .int p5]) (rest := []) (wr := wL cI cZ cJ ad o f u') ⟨hx, hb, hml, hown, hts⟩ (k_X10_works l D cI cZ am v p1 p2 p3 p4 p5 hm) (cwV 5 hts (gwV mw_1145 mw_1146 mw_1147 mw_59 mw_1148) rfl rfl rfl (by decide +kernel) ⟨(Nat.le_of_ble_eq_true rfl), (Nat.le_of_ble_eq_true rfl)⟩) (hK.sub [0, 1] rfl) hP hD hS hA hZ [0, 1, 2, 3, 4, 5, 6, 7, 8, 9, 10, 11, 12, 13, 14, 15, 16, 17, 18, 19, 20, 21, 22, 23] [24, 25, 26, 27, 28, 29, 30, 31, 32, 33, 34, 35, 36, 37, 38, 39, 40, 41, 42, 43, 44, 45, 46, 47, 48, 49, 50, 51, 52, 53, 54, 55, 56, 57, 58, 59] rfl rfl (by decide) rfl (by decide) (by decide) (ci := 10) (q0 := 0) rfl rfl rfl hl.1 rfl (Nat.le_of_ble_eq_true rfl) dL_law_1498 ⟨by show 60 + (j + 1) ≤ 1087; omega, by show 5141 + 6 * (j + 1) ≤ 13351; omega⟩ (fun H locs hP hD hS => ?_)
          replace hP : va_P D vwCl (wM cI cZ am v' ++ wL cI cZ cJ ad o f u') H := hP.sub [36, 37, 38, 39, 40, 41, 42, 43, 44, 45, 46, 47, 48, 49, 50, 51, 52, 53, 54, 55, 56, 57, 58, 59, 0, 1, 2, 3, 4, 5, 6, 7, 8, 9, 10, 11, 12, 13, 14, 15, 16, 17, 18, 19, 20, 21, 22, 23, 24, 25, 26, 27, 28, 29, 30, 31, 32, 33, 34, 35] rfl
          replace hD : va_D (fun q : Nat => s.heap.size ≤ q) (wM cI cZ am v' ++ wL cI cZ cJ ad o f u') := hD.sub [36, 37, 38, 39, 40, 41, 42, 43, 44, 45, 46, 47, 48, 49, 50, 51, 52, 53, 54, 55, 56, 57, 58, 59, 0, 1, 2, 3, 4, 5, 6, 7, 8, 9, 10, 11, 12, 13, 14, 15, 16, 17, 18, 19, 20, 21, 22, 23, 24, 25, 26, 27, 28, 29, 30, 31, 32, 33, 34, 35] (by decide) rfl
          refine lv_istore (lv' := [(6, .int b9), (5, .int 3), (0, .ref b), (1, .ref (ad 0)), (2, .ref (am 0)), (3, .ref o), (4, .int i)]) hx hb dL_law_1501 hl (by decide) rfl (fun ls hl => ?_)
          refine lv_aload_n hx hb dL_law_1503 rfl (lv_at hl 4 rfl) ?_
          refine cc_iVF (As := []) (rest := []) (wr := wL cI cZ cJ ad o f u') ⟨hx, hb, hml, hown, hts⟩ (k_X10_thrown l D cI cZ am v' rfl) (cwV 0 hts (gwV mw_968 mw_969 mw_970 mw_59 mw_971) rfl rfl rfl (by decide +kernel) ⟨(Nat.le_of_ble_eq_true rfl), (Nat.le_of_ble_eq_true rfl)⟩) (hK.sub [0, 1] rfl) hP hD hS hA hZ [0, 1, 2, 3, 4, 5, 6, 7, 8, 9, 10, 11, 12, 13, 14, 15, 16, 17, 18, 19, 20, 21, 22, 23] [24, 25, 26, 27, 28, 29, 30, 31, 32, 33, 34, 35, 36, 37, 38, 39, 40, 41, 42, 43, 44, 45, 46, 47, 48, 49, 50, 51, 52, 53, 54, 55, 56, 57, 58, 59] rfl rfl (by decide) rfl (by decide) (by decide) (ci := 10) (q0 := 0) rfl rfl rfl hl.1 rfl (Nat.le_of_ble_eq_true rfl) dL_law_1504 ⟨by show 60 + (j + 1) ≤ 1087; omega, by show 5141 + 6 * (j + 1) ≤ 13351; omega⟩ (fun H locs hP hD hS => ?_)
          replace hP : va_P D vwCl (wM cI cZ am v' ++ wL cI cZ cJ ad o f u') H := hP.sub [36, 37, 38, 39, 40, 41, 42, 43, 44, 45, 46, 47, 48, 49, 50, 51, 52, 53, 54, 55, 56, 57, 58, 59, 0, 1, 2, 3, 4, 5, 6, 7, 8, 9, 10, 11, 12, 13, 14, 15, 16, 17, 18, 19, 20, 21, 22, 23, 24, 25, 26, 27, 28, 29, 30, 31, 32, 33, 34, 35] rfl
          replace hD : va_D (fun q : Nat => s.heap.size ≤ q) (wM cI cZ am v' ++ wL cI cZ cJ ad o f u') := hD.sub [36, 37, 38, 39, 40, 41, 42, 43, 44, 45, 46, 47, 48, 49, 50, 51, 52, 53, 54, 55, 56, 57, 58, 59, 0, 1, 2, 3, 4, 5, 6, 7, 8, 9, 10, 11, 12, 13, 14, 15, 16, 17, 18, 19, 20, 21, 22, 23, 24, 25, 26, 27, 28, 29, 30, 31, 32, 33, 34, 35] (by decide) rfl
          refine lv_iload hx hb dL_law_1507 (lv_at hl 1 rfl) ?_
          refine lv_icmp_eq (tgt := 1514) hx hb dL_law_1509 (by decide) (fun _ => ?_) (fun c1 => absurd ht c1)
          refine lv_iload hx hb dL_law_1514 (lv_at hl 1 rfl) ?_
          refine lv_if_ne (tgt := 1531) hx hb dL_law_1516 (by decide) (fun _ => ?_) (fun c1 => absurd c1 (by decide))
          refine lv_goto (tgt := 1764) hx hb dL_law_1531 (by decide) ?_
          exact kk _ _ _ _ _ ls hrel hP hD hS (lv_sub hl [2, 3, 4, 5, 6] rfl)
        · exact absurd hq List.not_mem_nil

set_option maxHeartbeats 4000000 in
set_option maxRecDepth 100000 in
theorem lc_isOn {p : Program} {l : Launch} {e : Env} {s : State} {m : MethodId} {below : List Frame} {meth : Method} {c : Code} {b L : Nat} {xs : Nat → Int32} (hl0 : l.stackTraces = false) (C0 : lw_At p s m meth c b L xs) (hZ : cst (fun q : Nat => s.heap.size ≤ q) s) {D : va_G} {cI cZ cJ : ClassId} (hK : va_K D vwCl [(cI, .int), (cZ, .boolean), (cJ, .long)] s) {Rel : GS → MS → Prop} {am ad : Nat → Nat} {o : Nat} {f : Nat → Int64} {u : GS} {v : MS} {i : Int32} {j : Nat} (hj : j ≤ 511) (hi : lin i L) {p1 : Int32} (hp1 : xs (i + 1).toNatClampNeg = p1) (hsim : SI Rel (g_X9_isOn u p1) (g_X10_isOn v p1) [("java/lang/IndexOutOfBoundsException", 1)]) {H : Heap} {locs : List Loc} {ls : Array Slot} (hP : va_P D vwCl (wM cI cZ am v ++ wL cI cZ cJ ad o f u) H) (hD : va_D (fun q : Nat => s.heap.size ≤ q) (wM cI cZ am v ++ wL cI cZ cJ ad o f u)) (hS : va_S (fun q : Nat => s.heap.size ≤ q) s.heap H locs) (hl : lv_has ls 7 [(0, .ref b), (1, .ref (ad 0)), (2, .ref (am 0)), (3, .ref o), (4, .int i)]) (kk : ∀ (u' : GS) (v' : MS) (f' : Nat → Int64) (H : Heap) (locs : List Loc) (ls : Array Slot), Rel u' v' → va_P D vwCl (wM cI cZ am v' ++ wL cI cZ cJ ad o f' u') H → va_D (fun q : Nat => s.heap.size ≤ q) (wM cI cZ am v' ++ wL cI cZ cJ ad o f' u') → va_S (fun q : Nat => s.heap.size ≤ q) s.heap H locs → lv_has ls 7 [(0, .ref b), (1, .ref (ad 0)), (2, .ref (am 0)), (3, .ref o), (4, .int i)] → W p l e room_1 s m #[Value.ref b] below meth c H locs (60 + (j + 1)) (5141 + 6 * (j + 1)) (lw_Z below #[Value.ref b] s) (F0 m 1764 ls [])) : W p l e room_1 s m #[Value.ref b] below meth c H locs (60 + j) (5141 + 6 * j) (lw_Z below #[Value.ref b] s) (F0 m 1534 ls []) := by
  obtain ⟨hx, hb, hr, hml, hown, hts0, hX, hbl, hlocks, hgv⟩ := id C0
  have hts : ∀ w ∈ Wall, w.before #[Value.ref b] s = true := fun w h => hts0 w (wall_tbl w h)
  have hA : ∀ q : Nat, s.heap.size ≤ q → (fun q : Nat => s.heap.size ≤ q) q := fun _ h => h
  have hbA : ¬ (fun q : Nat => s.heap.size ≤ q) b := Nat.not_le.mpr hbl
  obtain ⟨-, hi1, hi2, hi3, hi4, hi5⟩ := hi
  rcases hsim with ⟨r, u', v', hc, hm, ht, hrel⟩ | ⟨q, u', b9, v', hq, hc, hm, ht, hrel⟩
  · refine lv_aload_n hx hb dL_law_1534 rfl (lv_at hl 1 rfl) ?_
    refine lv_aload_n hx hb dL_law_1535 rfl (lv_at hl 0 rfl) ?_
    refine lv_iload hx hb dL_law_1536 (lv_at hl 4 rfl) ?_
    refine lv_iconst (v := 1) hx hb dL_law_1538 (by decide) ?_
    refine lv_iadd hx hb dL_law_1539 ?_
    refine va_sld hx hb hX hbl hbA hS hi1 dL_law_1540 ?_
    refine lv_topn hp1 ?_
    refine lv_aload_n hx hb dL_law_1541 rfl (lv_at hl 3 rfl) ?_
    refine cc_iSHF (As := [.ref (ad 0), .int p1, .ref o]) (rest := []) (wr := wM cI cZ am v) ⟨hx, hb, hml, hown, hts⟩ (k_L_isOn l D cI cZ cJ ad o f u p1 hc) (vx_cwSW 3 hts (gwSH mw_804 mw_805 mw_47 mw_806) rfl rfl rfl (by decide +kernel) ⟨(Nat.le_of_ble_eq_true rfl), (Nat.le_of_ble_eq_true rfl)⟩) hK hP hD hS hA hZ [24, 25, 26, 27, 28, 29, 30, 31, 32, 33, 34, 35, 36, 37, 38, 39, 40, 41, 42, 43, 44, 45, 46, 47, 48, 49, 50, 51, 52, 53, 54, 55, 56, 57, 58, 59] [0, 1, 2, 3, 4, 5, 6, 7, 8, 9, 10, 11, 12, 13, 14, 15, 16, 17, 18, 19, 20, 21, 22, 23] rfl rfl (by decide) rfl (by decide) (by decide) rfl hl.1 rfl (Nat.le_of_ble_eq_true rfl) dL_law_1542 ⟨by show 60 + j ≤ 1087; omega, by show 5141 + 6 * j ≤ 13351; omega⟩ (fun H locs hP hD hS => ?_)
    replace hP : va_P D vwCl (wM cI cZ am v ++ wL cI cZ cJ ad o (vp_updL f (0 : Int32).toNatClampNeg (if r = 0 then 0 else 1)) u') H := hP
    replace hD : va_D (fun q : Nat => s.heap.size ≤ q) (wM cI cZ am v ++ wL cI cZ cJ ad o (vp_updL f (0 : Int32).toNatClampNeg (if r = 0 then 0 else 1)) u') := hD
    refine W.widen (k := 60 + (j + 1)) (n := 5141 + 6 * (j + 1)) (by omega) (by omega) ?_
    refine lv_istore (lv' := [(5, .int 0), (0, .ref b), (1, .ref (ad 0)), (2, .ref (am 0)), (3, .ref o), (4, .int i)]) hx hb dL_law_1545 hl (by decide) rfl (fun ls hl => ?_)
    refine lv_aload_n hx hb dL_law_1547 rfl (lv_at hl 3 rfl) ?_
    refine lv_aload_n hx hb dL_law_1548 rfl (lv_at hl 1 rfl) ?_
    refine lv_iload hx hb dL_law_1549 (lv_at hl 5 rfl) ?_
    refine lv_iconst (v := 1) hx hb dL_law_1551 (by decide) ?_
    refine lv_iadd hx hb dL_law_1552 ?_
    refine va_sld hx hb hX hbl hbA hS hi1 dL_law_1553 ?_
    refine lv_topn hp1 ?_
    refine cc_iVF (As := [.int p1]) (rest := []) (wr := wL cI cZ cJ ad o (vp_updL f (0 : Int32).toNatClampNeg (if r = 0 then 0 else 1)) u') ⟨hx, hb, hml, hown, hts⟩ (k_X10_isOn l D cI cZ am v p1 hm) (cwV 1 hts (gwV mw_1157 mw_1158 mw_1159 mw_59 mw_1160) rfl rfl rfl (by decide +kernel) ⟨(Nat.le_of_ble_eq_true rfl), (Nat.le_of_ble_eq_true rfl)⟩) (hK.sub [0, 1] rfl) hP hD hS hA hZ [0, 1, 2, 3, 4, 5, 6, 7, 8, 9, 10, 11, 12, 13, 14, 15, 16, 17, 18, 19, 20, 21, 22, 23] [24, 25, 26, 27, 28, 29, 30, 31, 32, 33, 34, 35, 36, 37, 38, 39, 40, 41, 42, 43, 44, 45, 46, 47, 48, 49, 50, 51, 52, 53, 54, 55, 56, 57, 58, 59] rfl rfl (by decide) rfl (by decide) (by decide) (ci := 10) (q0 := 0) rfl rfl rfl hl.1 rfl (Nat.le_of_ble_eq_true rfl) dL_law_1554 ⟨by show 60 + (j + 1) ≤ 1087; omega, by show 5141 + 6 * (j + 1) ≤ 13351; omega⟩ (fun H locs hP hD hS => ?_)
    replace hP : va_P D vwCl (wM cI cZ am v' ++ wL cI cZ cJ ad o (vp_updL f (0 : Int32).toNatClampNeg (if r = 0 then 0 else 1)) u') H := hP.sub [36, 37, 38, 39, 40, 41, 42, 43, 44, 45, 46, 47, 48, 49, 50, 51, 52, 53, 54, 55, 56, 57, 58, 59, 0, 1, 2, 3, 4, 5, 6, 7, 8, 9, 10, 11, 12, 13, 14, 15, 16, 17, 18, 19, 20, 21, 22, 23, 24, 25, 26, 27, 28, 29, 30, 31, 32, 33, 34, 35] rfl
    replace hD : va_D (fun q : Nat => s.heap.size ≤ q) (wM cI cZ am v' ++ wL cI cZ cJ ad o (vp_updL f (0 : Int32).toNatClampNeg (if r = 0 then 0 else 1)) u') := hD.sub [36, 37, 38, 39, 40, 41, 42, 43, 44, 45, 46, 47, 48, 49, 50, 51, 52, 53, 54, 55, 56, 57, 58, 59, 0, 1, 2, 3, 4, 5, 6, 7, 8, 9, 10, 11, 12, 13, 14, 15, 16, 17, 18, 19, 20, 21, 22, 23, 24, 25, 26, 27, 28, 29, 30, 31, 32, 33, 34, 35] (by decide) rfl
    refine lv_istore (lv' := [(6, .int r), (5, .int 0), (0, .ref b), (1, .ref (ad 0)), (2, .ref (am 0)), (3, .ref o), (4, .int i)]) hx hb dL_law_1557 hl (by decide) rfl (fun ls hl => ?_)
    refine lv_aload_n hx hb dL_law_1559 rfl (lv_at hl 4 rfl) ?_
    refine cc_iVF (As := []) (rest := []) (wr := wL cI cZ cJ ad o (vp_updL f (0 : Int32).toNatClampNeg (if r = 0 then 0 else 1)) u') ⟨hx, hb, hml, hown, hts⟩ (k_X10_thrown l D cI cZ am v' rfl) (cwV 0 hts (gwV mw_968 mw_969 mw_970 mw_59 mw_971) rfl rfl rfl (by decide +kernel) ⟨(Nat.le_of_ble_eq_true rfl), (Nat.le_of_ble_eq_true rfl)⟩) (hK.sub [0, 1] rfl) hP hD hS hA hZ [0, 1, 2, 3, 4, 5, 6, 7, 8, 9, 10, 11, 12, 13, 14, 15, 16, 17, 18, 19, 20, 21, 22, 23] [24, 25, 26, 27, 28, 29, 30, 31, 32, 33, 34, 35, 36, 37, 38, 39, 40, 41, 42, 43, 44, 45, 46, 47, 48, 49, 50, 51, 52, 53, 54, 55, 56, 57, 58, 59] rfl rfl (by decide) rfl (by decide) (by decide) (ci := 10) (q0 := 0) rfl rfl rfl hl.1 rfl (Nat.le_of_ble_eq_true rfl) dL_law_1560 ⟨by show 60 + (j + 1) ≤ 1087; omega, by show 5141 + 6 * (j + 1) ≤ 13351; omega⟩ (fun H locs hP hD hS => ?_)
    replace hP : va_P D vwCl (wM cI cZ am v' ++ wL cI cZ cJ ad o (vp_updL f (0 : Int32).toNatClampNeg (if r = 0 then 0 else 1)) u') H := hP.sub [36, 37, 38, 39, 40, 41, 42, 43, 44, 45, 46, 47, 48, 49, 50, 51, 52, 53, 54, 55, 56, 57, 58, 59, 0, 1, 2, 3, 4, 5, 6, 7, 8, 9, 10, 11, 12, 13, 14, 15, 16, 17, 18, 19, 20, 21, 22, 23, 24, 25, 26, 27, 28, 29, 30, 31, 32, 33, 34, 35] rfl
    replace hD : va_D (fun q : Nat => s.heap.size ≤ q) (wM cI cZ am v' ++ wL cI cZ cJ ad o (vp_updL f (0 : Int32).toNatClampNeg (if r = 0 then 0 else 1)) u') := hD.sub [36, 37, 38, 39, 40, 41, 42, 43, 44, 45, 46, 47, 48, 49, 50, 51, 52, 53, 54, 55, 56, 57, 58, 59, 0, 1, 2, 3, 4, 5, 6, 7, 8, 9, 10, 11, 12, 13, 14, 15, 16, 17, 18, 19, 20, 21, 22, 23, 24, 25, 26, 27, 28, 29, 30, 31, 32, 33, 34, 35] (by decide) rfl
    refine lv_iload hx hb dL_law_1563 (lv_at hl 1 rfl) ?_
    refine lv_icmp_eq (tgt := 1570) hx hb dL_law_1565 (by decide) (fun _ => ?_) (fun c1 => absurd ht c1)
    refine lv_iload hx hb dL_law_1570 (lv_at hl 1 rfl) ?_
    refine lv_if_ne (tgt := 1594) hx hb dL_law_1572 (by decide) (fun c1 => absurd rfl c1) (fun _ => ?_)
    refine lv_aload_n hx hb dL_law_1575 rfl (lv_at hl 5 rfl) ?_
    refine lv_iconst (v := 0) hx hb dL_law_1576 (by decide) ?_
    refine va_lald (D := D) hx hb hK hP 24 2 rfl rfl (by unfold vp_in; decide) dL_law_1577 ?_
    refine lv_iload hx hb dL_law_1578 (lv_at hl 0 rfl) ?_
    refine lv_if_eq (tgt := 1587) hx hb dL_law_1580 (by decide) (fun c3 => ?_) (fun c3 => ?_)
    · refine lv_lconst (v := 0) hx hb dL_law_1587 (by decide) ?_
      refine W.lcmp hx hb dL_law_1588 ?_
      refine lv_if_eq (tgt := 1594) hx hb dL_law_1589 (by decide) (fun _ => ?_) (fun c2 => absurd (by simp [lg_cmp, vp_updL, c3]) c2)
      refine lv_goto (tgt := 1764) hx hb dL_law_1594 (by decide) ?_
      exact kk _ _ _ _ _ ls hrel hP hD hS (lv_sub hl [2, 3, 4, 5, 6] rfl)
    · refine lv_lconst (v := 1) hx hb dL_law_1583 (by decide) ?_
      refine lv_goto (tgt := 1588) hx hb dL_law_1584 (by decide) ?_
      refine W.lcmp hx hb dL_law_1588 ?_
      refine lv_if_eq (tgt := 1594) hx hb dL_law_1589 (by decide) (fun _ => ?_) (fun c2 => absurd (by simp [lg_cmp, vp_updL, c3]) c2)
      refine lv_goto (tgt := 1764) hx hb dL_law_1594 (by decide) ?_
      exact kk _ _ _ _ _ ls hrel hP hD hS (lv_sub hl [2, 3, 4, 5, 6] rfl)
  · rcases List.mem_cons.mp hq with rfl | hq
    · refine lv_aload_n hx hb dL_law_1534 rfl (lv_at hl 1 rfl) ?_
      refine lv_aload_n hx hb dL_law_1535 rfl (lv_at hl 0 rfl) ?_
      refine lv_iload hx hb dL_law_1536 (lv_at hl 4 rfl) ?_
      refine lv_iconst (v := 1) hx hb dL_law_1538 (by decide) ?_
      refine lv_iadd hx hb dL_law_1539 ?_
      refine va_sld hx hb hX hbl hbA hS hi1 dL_law_1540 ?_
      refine lv_topn hp1 ?_
      refine lv_aload_n hx hb dL_law_1541 rfl (lv_at hl 3 rfl) ?_
      refine cc_iSHF (As := [.ref (ad 0), .int p1, .ref o]) (rest := []) (wr := wM cI cZ am v) ⟨hx, hb, hml, hown, hts⟩ (kx1_L_isOn l hl0 D cI cZ cJ ad o f u p1 hc) (vx_cwSW 3 hts (gwSH mw_804 mw_805 mw_47 mw_806) rfl rfl rfl (by decide +kernel) ⟨(Nat.le_of_ble_eq_true rfl), (Nat.le_of_ble_eq_true rfl)⟩) hK hP hD hS hA hZ [24, 25, 26, 27, 28, 29, 30, 31, 32, 33, 34, 35, 36, 37, 38, 39, 40, 41, 42, 43, 44, 45, 46, 47, 48, 49, 50, 51, 52, 53, 54, 55, 56, 57, 58, 59] [0, 1, 2, 3, 4, 5, 6, 7, 8, 9, 10, 11, 12, 13, 14, 15, 16, 17, 18, 19, 20, 21, 22, 23] rfl rfl (by decide) rfl (by decide) (by decide) rfl hl.1 rfl (Nat.le_of_ble_eq_true rfl) dL_law_1542 ⟨by show 60 + j + 1 ≤ 1087; omega, by show 5141 + 6 * j + 6 ≤ 13351; omega⟩ (fun H locs hP hD hS => ?_)
      replace hP : va_P D vwCl (wM cI cZ am v ++ wL cI cZ cJ ad o f u') H := hP
      replace hD : va_D (fun q : Nat => s.heap.size ≤ q) (wM cI cZ am v ++ wL cI cZ cJ ad o f u') := hD
      refine W.widen (k := 60 + (j + 1)) (n := 5141 + 6 * (j + 1)) (by omega) (by omega) ?_
      refine lv_istore (lv' := [(5, .int 1), (0, .ref b), (1, .ref (ad 0)), (2, .ref (am 0)), (3, .ref o), (4, .int i)]) hx hb dL_law_1545 hl (by decide) rfl (fun ls hl => ?_)
      refine lv_aload_n hx hb dL_law_1547 rfl (lv_at hl 3 rfl) ?_
      refine lv_aload_n hx hb dL_law_1548 rfl (lv_at hl 1 rfl) ?_
      refine lv_iload hx hb dL_law_1549 (lv_at hl 5 rfl) ?_
      refine lv_iconst (v := 1) hx hb dL_law_1551 (by decide) ?_
      refine lv_iadd hx hb dL_law_1552 ?_
      refine va_sld hx hb hX hbl hbA hS hi1 dL_law_1553 ?_
      refine lv_topn hp1 ?_
      refine cc_iVF (As := [.int p1]) (rest := []) (wr := wL cI cZ cJ ad o f u') ⟨hx, hb, hml, hown, hts⟩ (k_X10_isOn l D cI cZ am v p1 hm) (cwV 1 hts (gwV mw_1157 mw_1158 mw_1159 mw_59 mw_1160) rfl rfl rfl (by decide +kernel) ⟨(Nat.le_of_ble_eq_true rfl), (Nat.le_of_ble_eq_true rfl)⟩) (hK.sub [0, 1] rfl) hP hD hS hA hZ [0, 1, 2, 3, 4, 5, 6, 7, 8, 9, 10, 11, 12, 13, 14, 15, 16, 17, 18, 19, 20, 21, 22, 23] [24, 25, 26, 27, 28, 29, 30, 31, 32, 33, 34, 35, 36, 37, 38, 39, 40, 41, 42, 43, 44, 45, 46, 47, 48, 49, 50, 51, 52, 53, 54, 55, 56, 57, 58, 59] rfl rfl (by decide) rfl (by decide) (by decide) (ci := 10) (q0 := 0) rfl rfl rfl hl.1 rfl (Nat.le_of_ble_eq_true rfl) dL_law_1554 ⟨by show 60 + (j + 1) ≤ 1087; omega, by show 5141 + 6 * (j + 1) ≤ 13351; omega⟩ (fun H locs hP hD hS => ?_)
      replace hP : va_P D vwCl (wM cI cZ am v' ++ wL cI cZ cJ ad o f u') H := hP.sub [36, 37, 38, 39, 40, 41, 42, 43, 44, 45, 46, 47, 48, 49, 50, 51, 52, 53, 54, 55, 56, 57, 58, 59, 0, 1, 2, 3, 4, 5, 6, 7, 8, 9, 10, 11, 12, 13, 14, 15, 16, 17, 18, 19, 20, 21, 22, 23, 24, 25, 26, 27, 28, 29, 30, 31, 32, 33, 34, 35] rfl
      replace hD : va_D (fun q : Nat => s.heap.size ≤ q) (wM cI cZ am v' ++ wL cI cZ cJ ad o f u') := hD.sub [36, 37, 38, 39, 40, 41, 42, 43, 44, 45, 46, 47, 48, 49, 50, 51, 52, 53, 54, 55, 56, 57, 58, 59, 0, 1, 2, 3, 4, 5, 6, 7, 8, 9, 10, 11, 12, 13, 14, 15, 16, 17, 18, 19, 20, 21, 22, 23, 24, 25, 26, 27, 28, 29, 30, 31, 32, 33, 34, 35] (by decide) rfl
      refine lv_istore (lv' := [(6, .int b9), (5, .int 1), (0, .ref b), (1, .ref (ad 0)), (2, .ref (am 0)), (3, .ref o), (4, .int i)]) hx hb dL_law_1557 hl (by decide) rfl (fun ls hl => ?_)
      refine lv_aload_n hx hb dL_law_1559 rfl (lv_at hl 4 rfl) ?_
      refine cc_iVF (As := []) (rest := []) (wr := wL cI cZ cJ ad o f u') ⟨hx, hb, hml, hown, hts⟩ (k_X10_thrown l D cI cZ am v' rfl) (cwV 0 hts (gwV mw_968 mw_969 mw_970 mw_59 mw_971) rfl rfl rfl (by decide +kernel) ⟨(Nat.le_of_ble_eq_true rfl), (Nat.le_of_ble_eq_true rfl)⟩) (hK.sub [0, 1] rfl) hP hD hS hA hZ [0, 1, 2, 3, 4, 5, 6, 7, 8, 9, 10, 11, 12, 13, 14, 15, 16, 17, 18, 19, 20, 21, 22, 23] [24, 25, 26, 27, 28, 29, 30, 31, 32, 33, 34, 35, 36, 37, 38, 39, 40, 41, 42, 43, 44, 45, 46, 47, 48, 49, 50, 51, 52, 53, 54, 55, 56, 57, 58, 59] rfl rfl (by decide) rfl (by decide) (by decide) (ci := 10) (q0 := 0) rfl rfl rfl hl.1 rfl (Nat.le_of_ble_eq_true rfl) dL_law_1560 ⟨by show 60 + (j + 1) ≤ 1087; omega, by show 5141 + 6 * (j + 1) ≤ 13351; omega⟩ (fun H locs hP hD hS => ?_)
      replace hP : va_P D vwCl (wM cI cZ am v' ++ wL cI cZ cJ ad o f u') H := hP.sub [36, 37, 38, 39, 40, 41, 42, 43, 44, 45, 46, 47, 48, 49, 50, 51, 52, 53, 54, 55, 56, 57, 58, 59, 0, 1, 2, 3, 4, 5, 6, 7, 8, 9, 10, 11, 12, 13, 14, 15, 16, 17, 18, 19, 20, 21, 22, 23, 24, 25, 26, 27, 28, 29, 30, 31, 32, 33, 34, 35] rfl
      replace hD : va_D (fun q : Nat => s.heap.size ≤ q) (wM cI cZ am v' ++ wL cI cZ cJ ad o f u') := hD.sub [36, 37, 38, 39, 40, 41, 42, 43, 44, 45, 46, 47, 48, 49, 50, 51, 52, 53, 54, 55, 56, 57, 58, 59, 0, 1, 2, 3, 4, 5, 6, 7, 8, 9, 10, 11, 12, 13, 14, 15, 16, 17, 18, 19, 20, 21, 22, 23, 24, 25, 26, 27, 28, 29, 30, 31, 32, 33, 34, 35] (by decide) rfl
      refine lv_iload hx hb dL_law_1563 (lv_at hl 1 rfl) ?_
      refine lv_icmp_eq (tgt := 1570) hx hb dL_law_1565 (by decide) (fun _ => ?_) (fun c1 => absurd ht c1)
      refine lv_iload hx hb dL_law_1570 (lv_at hl 1 rfl) ?_
      refine lv_if_ne (tgt := 1594) hx hb dL_law_1572 (by decide) (fun _ => ?_) (fun c1 => absurd c1 (by decide))
      refine lv_goto (tgt := 1764) hx hb dL_law_1594 (by decide) ?_
      exact kk _ _ _ _ _ ls hrel hP hD hS (lv_sub hl [2, 3, 4, 5, 6] rfl)
    · exact absurd hq List.not_mem_nil

set_option maxHeartbeats 4000000 in
set_option maxRecDepth 100000 in
theorem lc_proof {p : Program} {l : Launch} {e : Env} {s : State} {m : MethodId} {below : List Frame} {meth : Method} {c : Code} {b L : Nat} {xs : Nat → Int32} (hl0 : l.stackTraces = false) (C0 : lw_At p s m meth c b L xs) (hZ : cst (fun q : Nat => s.heap.size ≤ q) s) {D : va_G} {cI cZ cJ : ClassId} (hK : va_K D vwCl [(cI, .int), (cZ, .boolean), (cJ, .long)] s) {Rel : GS → MS → Prop} {am ad : Nat → Nat} {o : Nat} {f : Nat → Int64} {u : GS} {v : MS} {i : Int32} {j : Nat} (hj : j ≤ 511) (hi : lin i L) {p1 : Int32} (hp1 : xs (i + 1).toNatClampNeg = p1) {p2 : Int32} (hp2 : xs (i + 2).toNatClampNeg = p2) {p3 : Int32} (hp3 : xs (i + 3).toNatClampNeg = p3) (hsim : SI Rel (g_X9_proof u p1 p2 p3) (g_X10_proof v p1 p2 p3) [("java/lang/IndexOutOfBoundsException", 1), ("java/lang/IllegalArgumentException", 2), ("java/lang/IllegalStateException", 3)]) {H : Heap} {locs : List Loc} {ls : Array Slot} (hP : va_P D vwCl (wM cI cZ am v ++ wL cI cZ cJ ad o f u) H) (hD : va_D (fun q : Nat => s.heap.size ≤ q) (wM cI cZ am v ++ wL cI cZ cJ ad o f u)) (hS : va_S (fun q : Nat => s.heap.size ≤ q) s.heap H locs) (hl : lv_has ls 7 [(0, .ref b), (1, .ref (ad 0)), (2, .ref (am 0)), (3, .ref o), (4, .int i)]) (kk : ∀ (u' : GS) (v' : MS) (f' : Nat → Int64) (H : Heap) (locs : List Loc) (ls : Array Slot), Rel u' v' → va_P D vwCl (wM cI cZ am v' ++ wL cI cZ cJ ad o f' u') H → va_D (fun q : Nat => s.heap.size ≤ q) (wM cI cZ am v' ++ wL cI cZ cJ ad o f' u') → va_S (fun q : Nat => s.heap.size ≤ q) s.heap H locs → lv_has ls 7 [(0, .ref b), (1, .ref (ad 0)), (2, .ref (am 0)), (3, .ref o), (4, .int i)] → W p l e room_1 s m #[Value.ref b] below meth c H locs (60 + (j + 1)) (5141 + 6 * (j + 1)) (lw_Z below #[Value.ref b] s) (F0 m 1764 ls [])) : W p l e room_1 s m #[Value.ref b] below meth c H locs (60 + j) (5141 + 6 * j) (lw_Z below #[Value.ref b] s) (F0 m 1597 ls []) := by
  obtain ⟨hx, hb, hr, hml, hown, hts0, hX, hbl, hlocks, hgv⟩ := id C0
  have hts : ∀ w ∈ Wall, w.before #[Value.ref b] s = true := fun w h => hts0 w (wall_tbl w h)
  have hA : ∀ q : Nat, s.heap.size ≤ q → (fun q : Nat => s.heap.size ≤ q) q := fun _ h => h
  have hbA : ¬ (fun q : Nat => s.heap.size ≤ q) b := Nat.not_le.mpr hbl
  obtain ⟨-, hi1, hi2, hi3, hi4, hi5⟩ := hi
  rcases hsim with ⟨r, u', v', hc, hm, ht, hrel⟩ | ⟨q, u', b9, v', hq, hc, hm, ht, hrel⟩
  · refine lv_aload_n hx hb dL_law_1597 rfl (lv_at hl 1 rfl) ?_
    refine lv_aload_n hx hb dL_law_1598 rfl (lv_at hl 0 rfl) ?_
    refine lv_iload hx hb dL_law_1599 (lv_at hl 4 rfl) ?_
    refine lv_iconst (v := 1) hx hb dL_law_1601 (by decide) ?_
    refine lv_iadd hx hb dL_law_1602 ?_
    refine va_sld hx hb hX hbl hbA hS hi1 dL_law_1603 ?_
    refine lv_topn hp1 ?_
    refine lv_aload_n hx hb dL_law_1604 rfl (lv_at hl 0 rfl) ?_
    refine lv_iload hx hb dL_law_1605 (lv_at hl 4 rfl) ?_
    refine lv_iconst (v := 2) hx hb dL_law_1607 (by decide) ?_
    refine lv_iadd hx hb dL_law_1608 ?_
    refine va_sld hx hb hX hbl hbA hS hi2 dL_law_1609 ?_
    refine lv_topn hp2 ?_
    refine lv_aload_n hx hb dL_law_1610 rfl (lv_at hl 0 rfl) ?_
    refine lv_iload hx hb dL_law_1611 (lv_at hl 4 rfl) ?_
    refine lv_iconst (v := 3) hx hb dL_law_1613 (by decide) ?_
    refine lv_iadd hx hb dL_law_1614 ?_
    refine va_sld hx hb hX hbl hbA hS hi3 dL_law_1615 ?_
    refine lv_topn hp3 ?_
    refine lv_aload_n hx hb dL_law_1616 rfl (lv_at hl 3 rfl) ?_
    refine cc_iSHF (As := [.ref (ad 0), .int p1, .int p2, .int p3, .ref o]) (rest := []) (wr := wM cI cZ am v) ⟨hx, hb, hml, hown, hts⟩ (k_L_proof l D cI cZ cJ ad o f u p1 p2 p3 hc) (vx_cwSW 5 hts (gwSH mw_812 mw_813 mw_47 mw_814) rfl rfl rfl (by decide +kernel) ⟨(Nat.le_of_ble_eq_true rfl), (Nat.le_of_ble_eq_true rfl)⟩) hK hP hD hS hA hZ [24, 25, 26, 27, 28, 29, 30, 31, 32, 33, 34, 35, 36, 37, 38, 39, 40, 41, 42, 43, 44, 45, 46, 47, 48, 49, 50, 51, 52, 53, 54, 55, 56, 57, 58, 59] [0, 1, 2, 3, 4, 5, 6, 7, 8, 9, 10, 11, 12, 13, 14, 15, 16, 17, 18, 19, 20, 21, 22, 23] rfl rfl (by decide) rfl (by decide) (by decide) rfl hl.1 rfl (Nat.le_of_ble_eq_true rfl) dL_law_1617 ⟨by show 60 + j ≤ 1087; omega, by show 5141 + 6 * j ≤ 13351; omega⟩ (fun H locs hP hD hS => ?_)
    replace hP : va_P D vwCl (wM cI cZ am v ++ wL cI cZ cJ ad o (vp_updL f (0 : Int32).toNatClampNeg r.toInt64) u') H := hP
    replace hD : va_D (fun q : Nat => s.heap.size ≤ q) (wM cI cZ am v ++ wL cI cZ cJ ad o (vp_updL f (0 : Int32).toNatClampNeg r.toInt64) u') := hD
    refine W.widen (k := 60 + (j + 1)) (n := 5141 + 6 * (j + 1)) (by omega) (by omega) ?_
    refine lv_istore (lv' := [(5, .int 0), (0, .ref b), (1, .ref (ad 0)), (2, .ref (am 0)), (3, .ref o), (4, .int i)]) hx hb dL_law_1620 hl (by decide) rfl (fun ls hl => ?_)
    refine lv_aload_n hx hb dL_law_1622 rfl (lv_at hl 3 rfl) ?_
    refine lv_aload_n hx hb dL_law_1623 rfl (lv_at hl 1 rfl) ?_
    refine lv_iload hx hb dL_law_1624 (lv_at hl 5 rfl) ?_
    refine lv_iconst (v := 1) hx hb dL_law_1626 (by decide) ?_
    refine lv_iadd hx hb dL_law_1627 ?_
    refine va_sld hx hb hX hbl hbA hS hi1 dL_law_1628 ?_
    refine lv_topn hp1 ?_
    refine lv_aload_n hx hb dL_law_1629 rfl (lv_at hl 1 rfl) ?_
    refine lv_iload hx hb dL_law_1630 (lv_at hl 5 rfl) ?_
    refine lv_iconst (v := 2) hx hb dL_law_1632 (by decide) ?_
    refine lv_iadd hx hb dL_law_1633 ?_
    refine va_sld hx hb hX hbl hbA hS hi2 dL_law_1634 ?_
    refine lv_topn hp2 ?_
    refine lv_aload_n hx hb dL_law_1635 rfl (lv_at hl 1 rfl) ?_
    refine lv_iload hx hb dL_law_1636 (lv_at hl 5 rfl) ?_
    refine lv_iconst (v := 3) hx hb dL_law_1638 (by decide) ?_
    refine lv_iadd hx hb dL_law_1639 ?_
    refine va_sld hx hb hX hbl hbA hS hi3 dL_law_1640 ?_
    refine lv_topn hp3 ?_
    refine cc_iVF (As := [.int p1, .int p2, .int p3]) (rest := []) (wr := wL cI cZ cJ ad o (vp_updL f (0 : Int32).toNatClampNeg r.toInt64) u') ⟨hx, hb, hml, hown, hts⟩ (k_X10_proof l D cI cZ am v p1 p2 p3 hm) (cwV 3 hts (gwV mw_1161 mw_1162 mw_1163 mw_59 mw_1164) rfl rfl rfl (by decide +kernel) ⟨(Nat.le_of_ble_eq_true rfl), (Nat.le_of_ble_eq_true rfl)⟩) (hK.sub [0, 1] rfl) hP hD hS hA hZ [0, 1, 2, 3, 4, 5, 6, 7, 8, 9, 10, 11, 12, 13, 14, 15, 16, 17, 18, 19, 20, 21, 22, 23] [24, 25, 26, 27, 28, 29, 30, 31, 32, 33, 34, 35, 36, 37, 38, 39, 40, 41, 42, 43, 44, 45, 46, 47, 48, 49, 50, 51, 52, 53, 54, 55, 56, 57, 58, 59] rfl rfl (by decide) rfl (by decide) (by decide) (ci := 10) (q0 := 0) rfl rfl rfl hl.1 rfl (Nat.le_of_ble_eq_true rfl) dL_law_1641 ⟨by show 60 + (j + 1) ≤ 1087; omega, by show 5141 + 6 * (j + 1) ≤ 13351; omega⟩ (fun H locs hP hD hS => ?_)
    replace hP : va_P D vwCl (wM cI cZ am v' ++ wL cI cZ cJ ad o (vp_updL f (0 : Int32).toNatClampNeg r.toInt64) u') H := hP.sub [36, 37, 38, 39, 40, 41, 42, 43, 44, 45, 46, 47, 48, 49, 50, 51, 52, 53, 54, 55, 56, 57, 58, 59, 0, 1, 2, 3, 4, 5, 6, 7, 8, 9, 10, 11, 12, 13, 14, 15, 16, 17, 18, 19, 20, 21, 22, 23, 24, 25, 26, 27, 28, 29, 30, 31, 32, 33, 34, 35] rfl
    replace hD : va_D (fun q : Nat => s.heap.size ≤ q) (wM cI cZ am v' ++ wL cI cZ cJ ad o (vp_updL f (0 : Int32).toNatClampNeg r.toInt64) u') := hD.sub [36, 37, 38, 39, 40, 41, 42, 43, 44, 45, 46, 47, 48, 49, 50, 51, 52, 53, 54, 55, 56, 57, 58, 59, 0, 1, 2, 3, 4, 5, 6, 7, 8, 9, 10, 11, 12, 13, 14, 15, 16, 17, 18, 19, 20, 21, 22, 23, 24, 25, 26, 27, 28, 29, 30, 31, 32, 33, 34, 35] (by decide) rfl
    refine lv_istore (lv' := [(6, .int r), (5, .int 0), (0, .ref b), (1, .ref (ad 0)), (2, .ref (am 0)), (3, .ref o), (4, .int i)]) hx hb dL_law_1644 hl (by decide) rfl (fun ls hl => ?_)
    refine lv_aload_n hx hb dL_law_1646 rfl (lv_at hl 4 rfl) ?_
    refine cc_iVF (As := []) (rest := []) (wr := wL cI cZ cJ ad o (vp_updL f (0 : Int32).toNatClampNeg r.toInt64) u') ⟨hx, hb, hml, hown, hts⟩ (k_X10_thrown l D cI cZ am v' rfl) (cwV 0 hts (gwV mw_968 mw_969 mw_970 mw_59 mw_971) rfl rfl rfl (by decide +kernel) ⟨(Nat.le_of_ble_eq_true rfl), (Nat.le_of_ble_eq_true rfl)⟩) (hK.sub [0, 1] rfl) hP hD hS hA hZ [0, 1, 2, 3, 4, 5, 6, 7, 8, 9, 10, 11, 12, 13, 14, 15, 16, 17, 18, 19, 20, 21, 22, 23] [24, 25, 26, 27, 28, 29, 30, 31, 32, 33, 34, 35, 36, 37, 38, 39, 40, 41, 42, 43, 44, 45, 46, 47, 48, 49, 50, 51, 52, 53, 54, 55, 56, 57, 58, 59] rfl rfl (by decide) rfl (by decide) (by decide) (ci := 10) (q0 := 0) rfl rfl rfl hl.1 rfl (Nat.le_of_ble_eq_true rfl) dL_law_1647 ⟨by show 60 + (j + 1) ≤ 1087; omega, by show 5141 + 6 * (j + 1) ≤ 13351; omega⟩ (fun H locs hP hD hS => ?_)
    replace hP : va_P D vwCl (wM cI cZ am v' ++ wL cI cZ cJ ad o (vp_updL f (0 : Int32).toNatClampNeg r.toInt64) u') H := hP.sub [36, 37, 38, 39, 40, 41, 42, 43, 44, 45, 46, 47, 48, 49, 50, 51, 52, 53, 54, 55, 56, 57, 58, 59, 0, 1, 2, 3, 4, 5, 6, 7, 8, 9, 10, 11, 12, 13, 14, 15, 16, 17, 18, 19, 20, 21, 22, 23, 24, 25, 26, 27, 28, 29, 30, 31, 32, 33, 34, 35] rfl
    replace hD : va_D (fun q : Nat => s.heap.size ≤ q) (wM cI cZ am v' ++ wL cI cZ cJ ad o (vp_updL f (0 : Int32).toNatClampNeg r.toInt64) u') := hD.sub [36, 37, 38, 39, 40, 41, 42, 43, 44, 45, 46, 47, 48, 49, 50, 51, 52, 53, 54, 55, 56, 57, 58, 59, 0, 1, 2, 3, 4, 5, 6, 7, 8, 9, 10, 11, 12, 13, 14, 15, 16, 17, 18, 19, 20, 21, 22, 23, 24, 25, 26, 27, 28, 29, 30, 31, 32, 33, 34, 35] (by decide) rfl
    refine lv_iload hx hb dL_law_1650 (lv_at hl 1 rfl) ?_
    refine lv_icmp_eq (tgt := 1657) hx hb dL_law_1652 (by decide) (fun _ => ?_) (fun c1 => absurd ht c1)
    refine lv_iload hx hb dL_law_1657 (lv_at hl 1 rfl) ?_
    refine lv_if_ne (tgt := 1674) hx hb dL_law_1659 (by decide) (fun c1 => absurd rfl c1) (fun _ => ?_)
    refine lv_aload_n hx hb dL_law_1662 rfl (lv_at hl 5 rfl) ?_
    refine lv_iconst (v := 0) hx hb dL_law_1663 (by decide) ?_
    refine va_lald (D := D) hx hb hK hP 24 2 rfl rfl (by unfold vp_in; decide) dL_law_1664 ?_
    refine lv_iload hx hb dL_law_1665 (lv_at hl 0 rfl) ?_
    refine lv_i2l (v := r.toInt64) hx hb dL_law_1667 rfl ?_
    refine W.lcmp hx hb dL_law_1668 ?_
    refine lv_if_eq (tgt := 1674) hx hb dL_law_1669 (by decide) (fun _ => ?_) (fun c2 => absurd (by simp [lg_cmp, vp_updL]) c2)
    refine lv_goto (tgt := 1764) hx hb dL_law_1674 (by decide) ?_
    exact kk _ _ _ _ _ ls hrel hP hD hS (lv_sub hl [2, 3, 4, 5, 6] rfl)
  · rcases List.mem_cons.mp hq with rfl | hq
    · refine lv_aload_n hx hb dL_law_1597 rfl (lv_at hl 1 rfl) ?_
      refine lv_aload_n hx hb dL_law_1598 rfl (lv_at hl 0 rfl) ?_
      refine lv_iload hx hb dL_law_1599 (lv_at hl 4 rfl) ?_
      refine lv_iconst (v := 1) hx hb dL_law_1601 (by decide) ?_
      refine lv_iadd hx hb dL_law_1602 ?_
      refine va_sld hx hb hX hbl hbA hS hi1 dL_law_1603 ?_
      refine lv_topn hp1 ?_
      refine lv_aload_n hx hb dL_law_1604 rfl (lv_at hl 0 rfl) ?_
      refine lv_iload hx hb dL_law_1605 (lv_at hl 4 rfl) ?_
      refine lv_iconst (v := 2) hx hb dL_law_1607 (by decide) ?_
      refine lv_iadd hx hb dL_law_1608 ?_
      refine va_sld hx hb hX hbl hbA hS hi2 dL_law_1609 ?_
      refine lv_topn hp2 ?_
      refine lv_aload_n hx hb dL_law_1610 rfl (lv_at hl 0 rfl) ?_
      refine lv_iload hx hb dL_law_1611 (lv_at hl 4 rfl) ?_
      refine lv_iconst (v := 3) hx hb dL_law_1613 (by decide) ?_
      refine lv_iadd hx hb dL_law_1614 ?_
      refine va_sld hx hb hX hbl hbA hS hi3 dL_law_1615 ?_
      refine lv_topn hp3 ?_
      refine lv_aload_n hx hb dL_law_1616 rfl (lv_at hl 3 rfl) ?_
      refine cc_iSHF (As := [.ref (ad 0), .int p1, .int p2, .int p3, .ref o]) (rest := []) (wr := wM cI cZ am v) ⟨hx, hb, hml, hown, hts⟩ (kx1_L_proof l hl0 D cI cZ cJ ad o f u p1 p2 p3 hc) (vx_cwSW 5 hts (gwSH mw_812 mw_813 mw_47 mw_814) rfl rfl rfl (by decide +kernel) ⟨(Nat.le_of_ble_eq_true rfl), (Nat.le_of_ble_eq_true rfl)⟩) hK hP hD hS hA hZ [24, 25, 26, 27, 28, 29, 30, 31, 32, 33, 34, 35, 36, 37, 38, 39, 40, 41, 42, 43, 44, 45, 46, 47, 48, 49, 50, 51, 52, 53, 54, 55, 56, 57, 58, 59] [0, 1, 2, 3, 4, 5, 6, 7, 8, 9, 10, 11, 12, 13, 14, 15, 16, 17, 18, 19, 20, 21, 22, 23] rfl rfl (by decide) rfl (by decide) (by decide) rfl hl.1 rfl (Nat.le_of_ble_eq_true rfl) dL_law_1617 ⟨by show 60 + j + 1 ≤ 1087; omega, by show 5141 + 6 * j + 6 ≤ 13351; omega⟩ (fun H locs hP hD hS => ?_)
      replace hP : va_P D vwCl (wM cI cZ am v ++ wL cI cZ cJ ad o f u') H := hP
      replace hD : va_D (fun q : Nat => s.heap.size ≤ q) (wM cI cZ am v ++ wL cI cZ cJ ad o f u') := hD
      refine W.widen (k := 60 + (j + 1)) (n := 5141 + 6 * (j + 1)) (by omega) (by omega) ?_
      refine lv_istore (lv' := [(5, .int 1), (0, .ref b), (1, .ref (ad 0)), (2, .ref (am 0)), (3, .ref o), (4, .int i)]) hx hb dL_law_1620 hl (by decide) rfl (fun ls hl => ?_)
      refine lv_aload_n hx hb dL_law_1622 rfl (lv_at hl 3 rfl) ?_
      refine lv_aload_n hx hb dL_law_1623 rfl (lv_at hl 1 rfl) ?_
      refine lv_iload hx hb dL_law_1624 (lv_at hl 5 rfl) ?_
      refine lv_iconst (v := 1) hx hb dL_law_1626 (by decide) ?_
      refine lv_iadd hx hb dL_law_1627 ?_
      refine va_sld hx hb hX hbl hbA hS hi1 dL_law_1628 ?_
      refine lv_topn hp1 ?_
      refine lv_aload_n hx hb dL_law_1629 rfl (lv_at hl 1 rfl) ?_
      refine lv_iload hx hb dL_law_1630 (lv_at hl 5 rfl) ?_
      refine lv_iconst (v := 2) hx hb dL_law_1632 (by decide) ?_
      refine lv_iadd hx hb dL_law_1633 ?_
      refine va_sld hx hb hX hbl hbA hS hi2 dL_law_1634 ?_
      refine lv_topn hp2 ?_
      refine lv_aload_n hx hb dL_law_1635 rfl (lv_at hl 1 rfl) ?_
      refine lv_iload hx hb dL_law_1636 (lv_at hl 5 rfl) ?_
      refine lv_iconst (v := 3) hx hb dL_law_1638 (by decide) ?_
      refine lv_iadd hx hb dL_law_1639 ?_
      refine va_sld hx hb hX hbl hbA hS hi3 dL_law_1640 ?_
      refine lv_topn hp3 ?_
      refine cc_iVF (As := [.int p1, .int p2, .int p3]) (rest := []) (wr := wL cI cZ cJ ad o f u') ⟨hx, hb, hml, hown, hts⟩ (k_X10_proof l D cI cZ am v p1 p2 p3 hm) (cwV 3 hts (gwV mw_1161 mw_1162 mw_1163 mw_59 mw_1164) rfl rfl rfl (by decide +kernel) ⟨(Nat.le_of_ble_eq_true rfl), (Nat.le_of_ble_eq_true rfl)⟩) (hK.sub [0, 1] rfl) hP hD hS hA hZ [0, 1, 2, 3, 4, 5, 6, 7, 8, 9, 10, 11, 12, 13, 14, 15, 16, 17, 18, 19, 20, 21, 22, 23] [24, 25, 26, 27, 28, 29, 30, 31, 32, 33, 34, 35, 36, 37, 38, 39, 40, 41, 42, 43, 44, 45, 46, 47, 48, 49, 50, 51, 52, 53, 54, 55, 56, 57, 58, 59] rfl rfl (by decide) rfl (by decide) (by decide) (ci := 10) (q0 := 0) rfl rfl rfl hl.1 rfl (Nat.le_of_ble_eq_true rfl) dL_law_1641 ⟨by show 60 + (j + 1) ≤ 1087; omega, by show 5141 + 6 * (j + 1) ≤ 13351; omega⟩ (fun H locs hP hD hS => ?_)
      replace hP : va_P D vwCl (wM cI cZ am v' ++ wL cI cZ cJ ad o f u') H := hP.sub [36, 37, 38, 39, 40, 41, 42, 43, 44, 45, 46, 47, 48, 49, 50, 51, 52, 53, 54, 55, 56, 57, 58, 59, 0, 1, 2, 3, 4, 5, 6, 7, 8, 9, 10, 11, 12, 13, 14, 15, 16, 17, 18, 19, 20, 21, 22, 23, 24, 25, 26, 27, 28, 29, 30, 31, 32, 33, 34, 35] rfl
      replace hD : va_D (fun q : Nat => s.heap.size ≤ q) (wM cI cZ am v' ++ wL cI cZ cJ ad o f u') := hD.sub [36, 37, 38, 39, 40, 41, 42, 43, 44, 45, 46, 47, 48, 49, 50, 51, 52, 53, 54, 55, 56, 57, 58, 59, 0, 1, 2, 3, 4, 5, 6, 7, 8, 9, 10, 11, 12, 13, 14, 15, 16, 17, 18, 19, 20, 21, 22, 23, 24, 25, 26, 27, 28, 29, 30, 31, 32, 33, 34, 35] (by decide) rfl
      refine lv_istore (lv' := [(6, .int b9), (5, .int 1), (0, .ref b), (1, .ref (ad 0)), (2, .ref (am 0)), (3, .ref o), (4, .int i)]) hx hb dL_law_1644 hl (by decide) rfl (fun ls hl => ?_)
      refine lv_aload_n hx hb dL_law_1646 rfl (lv_at hl 4 rfl) ?_
      refine cc_iVF (As := []) (rest := []) (wr := wL cI cZ cJ ad o f u') ⟨hx, hb, hml, hown, hts⟩ (k_X10_thrown l D cI cZ am v' rfl) (cwV 0 hts (gwV mw_968 mw_969 mw_970 mw_59 mw_971) rfl rfl rfl (by decide +kernel) ⟨(Nat.le_of_ble_eq_true rfl), (Nat.le_of_ble_eq_true rfl)⟩) (hK.sub [0, 1] rfl) hP hD hS hA hZ [0, 1, 2, 3, 4, 5, 6, 7, 8, 9, 10, 11, 12, 13, 14, 15, 16, 17, 18, 19, 20, 21, 22, 23] [24, 25, 26, 27, 28, 29, 30, 31, 32, 33, 34, 35, 36, 37, 38, 39, 40, 41, 42, 43, 44, 45, 46, 47, 48, 49, 50, 51, 52, 53, 54, 55, 56, 57, 58, 59] rfl rfl (by decide) rfl (by decide) (by decide) (ci := 10) (q0 := 0) rfl rfl rfl hl.1 rfl (Nat.le_of_ble_eq_true rfl) dL_law_1647 ⟨by show 60 + (j + 1) ≤ 1087; omega, by show 5141 + 6 * (j + 1) ≤ 13351; omega⟩ (fun H locs hP hD hS => ?_)
      replace hP : va_P D vwCl (wM cI cZ am v' ++ wL cI cZ cJ ad o f u') H := hP.sub [36, 37, 38, 39, 40, 41, 42, 43, 44, 45, 46, 47, 48, 49, 50, 51, 52, 53, 54, 55, 56, 57, 58, 59, 0, 1, 2, 3, 4, 5, 6, 7, 8, 9, 10, 11, 12, 13, 14, 15, 16, 17, 18, 19, 20, 21, 22, 23, 24, 25, 26, 27, 28, 29, 30, 31, 32, 33, 34, 35] rfl
      replace hD : va_D (fun q : Nat => s.heap.size ≤ q) (wM cI cZ am v' ++ wL cI cZ cJ ad o f u') := hD.sub [36, 37, 38, 39, 40, 41, 42, 43, 44, 45, 46, 47, 48, 49, 50, 51, 52, 53, 54, 55, 56, 57, 58, 59, 0, 1, 2, 3, 4, 5, 6, 7, 8, 9, 10, 11, 12, 13, 14, 15, 16, 17, 18, 19, 20, 21, 22, 23, 24, 25, 26, 27, 28, 29, 30, 31, 32, 33, 34, 35] (by decide) rfl
      refine lv_iload hx hb dL_law_1650 (lv_at hl 1 rfl) ?_
      refine lv_icmp_eq (tgt := 1657) hx hb dL_law_1652 (by decide) (fun _ => ?_) (fun c1 => absurd ht c1)
      refine lv_iload hx hb dL_law_1657 (lv_at hl 1 rfl) ?_
      refine lv_if_ne (tgt := 1674) hx hb dL_law_1659 (by decide) (fun _ => ?_) (fun c1 => absurd c1 (by decide))
      refine lv_goto (tgt := 1764) hx hb dL_law_1674 (by decide) ?_
      exact kk _ _ _ _ _ ls hrel hP hD hS (lv_sub hl [2, 3, 4, 5, 6] rfl)
    · rcases List.mem_cons.mp hq with rfl | hq
      · refine lv_aload_n hx hb dL_law_1597 rfl (lv_at hl 1 rfl) ?_
        refine lv_aload_n hx hb dL_law_1598 rfl (lv_at hl 0 rfl) ?_
        refine lv_iload hx hb dL_law_1599 (lv_at hl 4 rfl) ?_
        refine lv_iconst (v := 1) hx hb dL_law_1601 (by decide) ?_
        refine lv_iadd hx hb dL_law_1602 ?_
        refine va_sld hx hb hX hbl hbA hS hi1 dL_law_1603 ?_
        refine lv_topn hp1 ?_
        refine lv_aload_n hx hb dL_law_1604 rfl (lv_at hl 0 rfl) ?_
        refine lv_iload hx hb dL_law_1605 (lv_at hl 4 rfl) ?_
        refine lv_iconst (v := 2) hx hb dL_law_1607 (by decide) ?_
        refine lv_iadd hx hb dL_law_1608 ?_
        refine va_sld hx hb hX hbl hbA hS hi2 dL_law_1609 ?_
        refine lv_topn hp2 ?_
        refine lv_aload_n hx hb dL_law_1610 rfl (lv_at hl 0 rfl) ?_
        refine lv_iload hx hb dL_law_1611 (lv_at hl 4 rfl) ?_
        refine lv_iconst (v := 3) hx hb dL_law_1613 (by decide) ?_
        refine lv_iadd hx hb dL_law_1614 ?_
        refine va_sld hx hb hX hbl hbA hS hi3 dL_law_1615 ?_
        refine lv_topn hp3 ?_
        refine lv_aload_n hx hb dL_law_1616 rfl (lv_at hl 3 rfl) ?_
        refine cc_iSHF (As := [.ref (ad 0), .int p1, .int p2, .int p3, .ref o]) (rest := []) (wr := wM cI cZ am v) ⟨hx, hb, hml, hown, hts⟩ (kx2_L_proof l hl0 D cI cZ cJ ad o f u p1 p2 p3 hc) (vx_cwSW 5 hts (gwSH mw_812 mw_813 mw_47 mw_814) rfl rfl rfl (by decide +kernel) ⟨(Nat.le_of_ble_eq_true rfl), (Nat.le_of_ble_eq_true rfl)⟩) hK hP hD hS hA hZ [24, 25, 26, 27, 28, 29, 30, 31, 32, 33, 34, 35, 36, 37, 38, 39, 40, 41, 42, 43, 44, 45, 46, 47, 48, 49, 50, 51, 52, 53, 54, 55, 56, 57, 58, 59] [0, 1, 2, 3, 4, 5, 6, 7, 8, 9, 10, 11, 12, 13, 14, 15, 16, 17, 18, 19, 20, 21, 22, 23] rfl rfl (by decide) rfl (by decide) (by decide) rfl hl.1 rfl (Nat.le_of_ble_eq_true rfl) dL_law_1617 ⟨by show 60 + j + 1 ≤ 1087; omega, by show 5141 + 6 * j + 6 ≤ 13351; omega⟩ (fun H locs hP hD hS => ?_)
        replace hP : va_P D vwCl (wM cI cZ am v ++ wL cI cZ cJ ad o f u') H := hP
        replace hD : va_D (fun q : Nat => s.heap.size ≤ q) (wM cI cZ am v ++ wL cI cZ cJ ad o f u') := hD
        refine W.widen (k := 60 + (j + 1)) (n := 5141 + 6 * (j + 1)) (by omega) (by omega) ?_
        refine lv_istore (lv' := [(5, .int 2), (0, .ref b), (1, .ref (ad 0)), (2, .ref (am 0)), (3, .ref o), (4, .int i)]) hx hb dL_law_1620 hl (by decide) rfl (fun ls hl => ?_)
        refine lv_aload_n hx hb dL_law_1622 rfl (lv_at hl 3 rfl) ?_
        refine lv_aload_n hx hb dL_law_1623 rfl (lv_at hl 1 rfl) ?_
        refine lv_iload hx hb dL_law_1624 (lv_at hl 5 rfl) ?_
        refine lv_iconst (v := 1) hx hb dL_law_1626 (by decide) ?_
        refine lv_iadd hx hb dL_law_1627 ?_
        refine va_sld hx hb hX hbl hbA hS hi1 dL_law_1628 ?_
        refine lv_topn hp1 ?_
        refine lv_aload_n hx hb dL_law_1629 rfl (lv_at hl 1 rfl) ?_
        refine lv_iload hx hb dL_law_1630 (lv_at hl 5 rfl) ?_
        refine lv_iconst (v := 2) hx hb dL_law_1632 (by decide) ?_
        refine lv_iadd hx hb dL_law_1633 ?_
        refine va_sld hx hb hX hbl hbA hS hi2 dL_law_1634 ?_
        refine lv_topn hp2 ?_
        refine lv_aload_n hx hb dL_law_1635 rfl (lv_at hl 1 rfl) ?_
        refine lv_iload hx hb dL_law_1636 (lv_at hl 5 rfl) ?_
        refine lv_iconst (v := 3) hx hb dL_law_1638 (by decide) ?_
        refine lv_iadd hx hb dL_law_1639 ?_
        refine va_sld hx hb hX hbl hbA hS hi3 dL_law_1640 ?_
        refine lv_topn hp3 ?_
        refine cc_iVF (As := [.int p1, .int p2, .int p3]) (rest := []) (wr := wL cI cZ cJ ad o f u') ⟨hx, hb, hml, hown, hts⟩ (k_X10_proof l D cI cZ am v p1 p2 p3 hm) (cwV 3 hts (gwV mw_1161 mw_1162 mw_1163 mw_59 mw_1164) rfl rfl rfl (by decide +kernel) ⟨(Nat.le_of_ble_eq_true rfl), (Nat.le_of_ble_eq_true rfl)⟩) (hK.sub [0, 1] rfl) hP hD hS hA hZ [0, 1, 2, 3, 4, 5, 6, 7, 8, 9, 10, 11, 12, 13, 14, 15, 16, 17, 18, 19, 20, 21, 22, 23] [24, 25, 26, 27, 28, 29, 30, 31, 32, 33, 34, 35, 36, 37, 38, 39, 40, 41, 42, 43, 44, 45, 46, 47, 48, 49, 50, 51, 52, 53, 54, 55, 56, 57, 58, 59] rfl rfl (by decide) rfl (by decide) (by decide) (ci := 10) (q0 := 0) rfl rfl rfl hl.1 rfl (Nat.le_of_ble_eq_true rfl) dL_law_1641 ⟨by show 60 + (j + 1) ≤ 1087; omega, by show 5141 + 6 * (j + 1) ≤ 13351; omega⟩ (fun H locs hP hD hS => ?_)
        replace hP : va_P D vwCl (wM cI cZ am v' ++ wL cI cZ cJ ad o f u') H := hP.sub [36, 37, 38, 39, 40, 41, 42, 43, 44, 45, 46, 47, 48, 49, 50, 51, 52, 53, 54, 55, 56, 57, 58, 59, 0, 1, 2, 3, 4, 5, 6, 7, 8, 9, 10, 11, 12, 13, 14, 15, 16, 17, 18, 19, 20, 21, 22, 23, 24, 25, 26, 27, 28, 29, 30, 31, 32, 33, 34, 35] rfl
        replace hD : va_D (fun q : Nat => s.heap.size ≤ q) (wM cI cZ am v' ++ wL cI cZ cJ ad o f u') := hD.sub [36, 37, 38, 39, 40, 41, 42, 43, 44, 45, 46, 47, 48, 49, 50, 51, 52, 53, 54, 55, 56, 57, 58, 59, 0, 1, 2, 3, 4, 5, 6, 7, 8, 9, 10, 11, 12, 13, 14, 15, 16, 17, 18, 19, 20, 21, 22, 23, 24, 25, 26, 27, 28, 29, 30, 31, 32, 33, 34, 35] (by decide) rfl
        refine lv_istore (lv' := [(6, .int b9), (5, .int 2), (0, .ref b), (1, .ref (ad 0)), (2, .ref (am 0)), (3, .ref o), (4, .int i)]) hx hb dL_law_1644 hl (by decide) rfl (fun ls hl => ?_)
        refine lv_aload_n hx hb dL_law_1646 rfl (lv_at hl 4 rfl) ?_
        refine cc_iVF (As := []) (rest := []) (wr := wL cI cZ cJ ad o f u') ⟨hx, hb, hml, hown, hts⟩ (k_X10_thrown l D cI cZ am v' rfl) (cwV 0 hts (gwV mw_968 mw_969 mw_970 mw_59 mw_971) rfl rfl rfl (by decide +kernel) ⟨(Nat.le_of_ble_eq_true rfl), (Nat.le_of_ble_eq_true rfl)⟩) (hK.sub [0, 1] rfl) hP hD hS hA hZ [0, 1, 2, 3, 4, 5, 6, 7, 8, 9, 10, 11, 12, 13, 14, 15, 16, 17, 18, 19, 20, 21, 22, 23] [24, 25, 26, 27, 28, 29, 30, 31, 32, 33, 34, 35, 36, 37, 38, 39, 40, 41, 42, 43, 44, 45, 46, 47, 48, 49, 50, 51, 52, 53, 54, 55, 56, 57, 58, 59] rfl rfl (by decide) rfl (by decide) (by decide) (ci := 10) (q0 := 0) rfl rfl rfl hl.1 rfl (Nat.le_of_ble_eq_true rfl) dL_law_1647 ⟨by show 60 + (j + 1) ≤ 1087; omega, by show 5141 + 6 * (j + 1) ≤ 13351; omega⟩ (fun H locs hP hD hS => ?_)
        replace hP : va_P D vwCl (wM cI cZ am v' ++ wL cI cZ cJ ad o f u') H := hP.sub [36, 37, 38, 39, 40, 41, 42, 43, 44, 45, 46, 47, 48, 49, 50, 51, 52, 53, 54, 55, 56, 57, 58, 59, 0, 1, 2, 3, 4, 5, 6, 7, 8, 9, 10, 11, 12, 13, 14, 15, 16, 17, 18, 19, 20, 21, 22, 23, 24, 25, 26, 27, 28, 29, 30, 31, 32, 33, 34, 35] rfl
        replace hD : va_D (fun q : Nat => s.heap.size ≤ q) (wM cI cZ am v' ++ wL cI cZ cJ ad o f u') := hD.sub [36, 37, 38, 39, 40, 41, 42, 43, 44, 45, 46, 47, 48, 49, 50, 51, 52, 53, 54, 55, 56, 57, 58, 59, 0, 1, 2, 3, 4, 5, 6, 7, 8, 9, 10, 11, 12, 13, 14, 15, 16, 17, 18, 19, 20, 21, 22, 23, 24, 25, 26, 27, 28, 29, 30, 31, 32, 33, 34, 35] (by decide) rfl
        refine lv_iload hx hb dL_law_1650 (lv_at hl 1 rfl) ?_
        refine lv_icmp_eq (tgt := 1657) hx hb dL_law_1652 (by decide) (fun _ => ?_) (fun c1 => absurd ht c1)
        refine lv_iload hx hb dL_law_1657 (lv_at hl 1 rfl) ?_
        refine lv_if_ne (tgt := 1674) hx hb dL_law_1659 (by decide) (fun _ => ?_) (fun c1 => absurd c1 (by decide))
        refine lv_goto (tgt := 1764) hx hb dL_law_1674 (by decide) ?_
        exact kk _ _ _ _ _ ls hrel hP hD hS (lv_sub hl [2, 3, 4, 5, 6] rfl)
      · rcases List.mem_cons.mp hq with rfl | hq
        · refine lv_aload_n hx hb dL_law_1597 rfl (lv_at hl 1 rfl) ?_
          refine lv_aload_n hx hb dL_law_1598 rfl (lv_at hl 0 rfl) ?_
          refine lv_iload hx hb dL_law_1599 (lv_at hl 4 rfl) ?_
          refine lv_iconst (v := 1) hx hb dL_law_1601 (by decide) ?_
          refine lv_iadd hx hb dL_law_1602 ?_
          refine va_sld hx hb hX hbl hbA hS hi1 dL_law_1603 ?_
          refine lv_topn hp1 ?_
          refine lv_aload_n hx hb dL_law_1604 rfl (lv_at hl 0 rfl) ?_
          refine lv_iload hx hb dL_law_1605 (lv_at hl 4 rfl) ?_
          refine lv_iconst (v := 2) hx hb dL_law_1607 (by decide) ?_
          refine lv_iadd hx hb dL_law_1608 ?_
          refine va_sld hx hb hX hbl hbA hS hi2 dL_law_1609 ?_
          refine lv_topn hp2 ?_
          refine lv_aload_n hx hb dL_law_1610 rfl (lv_at hl 0 rfl) ?_
          refine lv_iload hx hb dL_law_1611 (lv_at hl 4 rfl) ?_
          refine lv_iconst (v := 3) hx hb dL_law_1613 (by decide) ?_
          refine lv_iadd hx hb dL_law_1614 ?_
          refine va_sld hx hb hX hbl hbA hS hi3 dL_law_1615 ?_
          refine lv_topn hp3 ?_
          refine lv_aload_n hx hb dL_law_1616 rfl (lv_at hl 3 rfl) ?_
          refine cc_iSHF (As := [.ref (ad 0), .int p1, .int p2, .int p3, .ref o]) (rest := []) (wr := wM cI cZ am v) ⟨hx, hb, hml, hown, hts⟩ (kx3_L_proof l hl0 D cI cZ cJ ad o f u p1 p2 p3 hc) (vx_cwSW 5 hts (gwSH mw_812 mw_813 mw_47 mw_814) rfl rfl rfl (by decide +kernel) ⟨(Nat.le_of_ble_eq_true rfl), (Nat.le_of_ble_eq_true rfl)⟩) hK hP hD hS hA hZ [24, 25, 26, 27, 28, 29, 30, 31, 32, 33, 34, 35, 36, 37, 38, 39, 40, 41, 42, 43, 44, 45, 46, 47, 48, 49, 50, 51, 52, 53, 54, 55, 56, 57, 58, 59] [0, 1, 2, 3, 4, 5, 6, 7, 8, 9, 10, 11, 12, 13, 14, 15, 16, 17, 18, 19, 20, 21, 22, 23] rfl rfl (by decide) rfl (by decide) (by decide) rfl hl.1 rfl (Nat.le_of_ble_eq_true rfl) dL_law_1617 ⟨by show 60 + j + 1 ≤ 1087; omega, by show 5141 + 6 * j + 6 ≤ 13351; omega⟩ (fun H locs hP hD hS => ?_)
          replace hP : va_P D vwCl (wM cI cZ am v ++ wL cI cZ cJ ad o f u') H := hP
          replace hD : va_D (fun q : Nat => s.heap.size ≤ q) (wM cI cZ am v ++ wL cI cZ cJ ad o f u') := hD
          refine W.widen (k := 60 + (j + 1)) (n := 5141 + 6 * (j + 1)) (by omega) (by omega) ?_
          refine lv_istore (lv' := [(5, .int 3), (0, .ref b), (1, .ref (ad 0)), (2, .ref (am 0)), (3, .ref o), (4, .int i)]) hx hb dL_law_1620 hl (by decide) rfl (fun ls hl => ?_)
          refine lv_aload_n hx hb dL_law_1622 rfl (lv_at hl 3 rfl) ?_
          refine lv_aload_n hx hb dL_law_1623 rfl (lv_at hl 1 rfl) ?_
          refine lv_iload hx hb dL_law_1624 (lv_at hl 5 rfl) ?_
          refine lv_iconst (v := 1) hx hb dL_law_1626 (by decide) ?_
          refine lv_iadd hx hb dL_law_1627 ?_
          refine va_sld hx hb hX hbl hbA hS hi1 dL_law_1628 ?_
          refine lv_topn hp1 ?_
          refine lv_aload_n hx hb dL_law_1629 rfl (lv_at hl 1 rfl) ?_
          refine lv_iload hx hb dL_law_1630 (lv_at hl 5 rfl) ?_
          refine lv_iconst (v := 2) hx hb dL_law_1632 (by decide) ?_
          refine lv_iadd hx hb dL_law_1633 ?_
          refine va_sld hx hb hX hbl hbA hS hi2 dL_law_1634 ?_
          refine lv_topn hp2 ?_
          refine lv_aload_n hx hb dL_law_1635 rfl (lv_at hl 1 rfl) ?_
          refine lv_iload hx hb dL_law_1636 (lv_at hl 5 rfl) ?_
          refine lv_iconst (v := 3) hx hb dL_law_1638 (by decide) ?_
          refine lv_iadd hx hb dL_law_1639 ?_
          refine va_sld hx hb hX hbl hbA hS hi3 dL_law_1640 ?_
          refine lv_topn hp3 ?_
          refine cc_iVF (As := [.int p1, .int p2, .int p3]) (rest := []) (wr := wL cI cZ cJ ad o f u') ⟨hx, hb, hml, hown, hts⟩ (k_X10_proof l D cI cZ am v p1 p2 p3 hm) (cwV 3 hts (gwV mw_1161 mw_1162 mw_1163 mw_59 mw_1164) rfl rfl rfl (by decide +kernel) ⟨(Nat.le_of_ble_eq_true rfl), (Nat.le_of_ble_eq_true rfl)⟩) (hK.sub [0, 1] rfl) hP hD hS hA hZ [0, 1, 2, 3, 4, 5, 6, 7, 8, 9, 10, 11, 12, 13, 14, 15, 16, 17, 18, 19, 20, 21, 22, 23] [24, 25, 26, 27, 28, 29, 30, 31, 32, 33, 34, 35, 36, 37, 38, 39, 40, 41, 42, 43, 44, 45, 46, 47, 48, 49, 50, 51, 52, 53, 54, 55, 56, 57, 58, 59] rfl rfl (by decide) rfl (by decide) (by decide) (ci := 10) (q0 := 0) rfl rfl rfl hl.1 rfl (Nat.le_of_ble_eq_true rfl) dL_law_1641 ⟨by show 60 + (j + 1) ≤ 1087; omega, by show 5141 + 6 * (j + 1) ≤ 13351; omega⟩ (fun H locs hP hD hS => ?_)
          replace hP : va_P D vwCl (wM cI cZ am v' ++ wL cI cZ cJ ad o f u') H := hP.sub [36, 37, 38, 39, 40, 41, 42, 43, 44, 45, 46, 47, 48, 49, 50, 51, 52, 53, 54, 55, 56, 57, 58, 59, 0, 1, 2, 3, 4, 5, 6, 7, 8, 9, 10, 11, 12, 13, 14, 15, 16, 17, 18, 19, 20, 21, 22, 23, 24, 25, 26, 27, 28, 29, 30, 31, 32, 33, 34, 35] rfl
          replace hD : va_D (fun q : Nat => s.heap.size ≤ q) (wM cI cZ am v' ++ wL cI cZ cJ ad o f u') := hD.sub [36, 37, 38, 39, 40, 41, 42, 43, 44, 45, 46, 47, 48, 49, 50, 51, 52, 53, 54, 55, 56, 57, 58, 59, 0, 1, 2, 3, 4, 5, 6, 7, 8, 9, 10, 11, 12, 13, 14, 15, 16, 17, 18, 19, 20, 21, 22, 23, 24, 25, 26, 27, 28, 29, 30, 31, 32, 33, 34, 35] (by decide) rfl
          refine lv_istore (lv' := [(6, .int b9), (5, .int 3), (0, .ref b), (1, .ref (ad 0)), (2, .ref (am 0)), (3, .ref o), (4, .int i)]) hx hb dL_law_1644 hl (by decide) rfl (fun ls hl => ?_)
          refine lv_aload_n hx hb dL_law_1646 rfl (lv_at hl 4 rfl) ?_
          refine cc_iVF (As := []) (rest := []) (wr := wL cI cZ cJ ad o f u') ⟨hx, hb, hml, hown, hts⟩ (k_X10_thrown l D cI cZ am v' rfl) (cwV 0 hts (gwV mw_968 mw_969 mw_970 mw_59 mw_971) rfl rfl rfl (by decide +kernel) ⟨(Nat.le_of_ble_eq_true rfl), (Nat.le_of_ble_eq_true rfl)⟩) (hK.sub [0, 1] rfl) hP hD hS hA hZ [0, 1, 2, 3, 4, 5, 6, 7, 8, 9, 10, 11, 12, 13, 14, 15, 16, 17, 18, 19, 20, 21, 22, 23] [24, 25, 26, 27, 28, 29, 30, 31, 32, 33, 34, 35, 36, 37, 38, 39, 40, 41, 42, 43, 44, 45, 46, 47, 48, 49, 50, 51, 52, 53, 54, 55, 56, 57, 58, 59] rfl rfl (by decide) rfl (by decide) (by decide) (ci := 10) (q0 := 0) rfl rfl rfl hl.1 rfl (Nat.le_of_ble_eq_true rfl) dL_law_1647 ⟨by show 60 + (j + 1) ≤ 1087; omega, by show 5141 + 6 * (j + 1) ≤ 13351; omega⟩ (fun H locs hP hD hS => ?_)
          replace hP : va_P D vwCl (wM cI cZ am v' ++ wL cI cZ cJ ad o f u') H := hP.sub [36, 37, 38, 39, 40, 41, 42, 43, 44, 45, 46, 47, 48, 49, 50, 51, 52, 53, 54, 55, 56, 57, 58, 59, 0, 1, 2, 3, 4, 5, 6, 7, 8, 9, 10, 11, 12, 13, 14, 15, 16, 17, 18, 19, 20, 21, 22, 23, 24, 25, 26, 27, 28, 29, 30, 31, 32, 33, 34, 35] rfl
          replace hD : va_D (fun q : Nat => s.heap.size ≤ q) (wM cI cZ am v' ++ wL cI cZ cJ ad o f u') := hD.sub [36, 37, 38, 39, 40, 41, 42, 43, 44, 45, 46, 47, 48, 49, 50, 51, 52, 53, 54, 55, 56, 57, 58, 59, 0, 1, 2, 3, 4, 5, 6, 7, 8, 9, 10, 11, 12, 13, 14, 15, 16, 17, 18, 19, 20, 21, 22, 23, 24, 25, 26, 27, 28, 29, 30, 31, 32, 33, 34, 35] (by decide) rfl
          refine lv_iload hx hb dL_law_1650 (lv_at hl 1 rfl) ?_
          refine lv_icmp_eq (tgt := 1657) hx hb dL_law_1652 (by decide) (fun _ => ?_) (fun c1 => absurd ht c1)
          refine lv_iload hx hb dL_law_1657 (lv_at hl 1 rfl) ?_
          refine lv_if_ne (tgt := 1674) hx hb dL_law_1659 (by decide) (fun _ => ?_) (fun c1 => absurd c1 (by decide))
          refine lv_goto (tgt := 1764) hx hb dL_law_1674 (by decide) ?_
          exact kk _ _ _ _ _ ls hrel hP hD hS (lv_sub hl [2, 3, 4, 5, 6] rfl)
        · exact absurd hq List.not_mem_nil

set_option maxHeartbeats 4000000 in
set_option maxRecDepth 100000 in
theorem lc_isFined {p : Program} {l : Launch} {e : Env} {s : State} {m : MethodId} {below : List Frame} {meth : Method} {c : Code} {b L : Nat} {xs : Nat → Int32} (hl0 : l.stackTraces = false) (C0 : lw_At p s m meth c b L xs) (hZ : cst (fun q : Nat => s.heap.size ≤ q) s) {D : va_G} {cI cZ cJ : ClassId} (hK : va_K D vwCl [(cI, .int), (cZ, .boolean), (cJ, .long)] s) {Rel : GS → MS → Prop} {am ad : Nat → Nat} {o : Nat} {f : Nat → Int64} {u : GS} {v : MS} {i : Int32} {j : Nat} (hj : j ≤ 511) (hi : lin i L) {p1 : Int32} (hp1 : xs (i + 1).toNatClampNeg = p1) {p2 : Int32} (hp2 : xs (i + 2).toNatClampNeg = p2) {p3 : Int32} (hp3 : xs (i + 3).toNatClampNeg = p3) (hsim : SI Rel (g_X9_isFined u p1 p2 p3) (g_X10_isFined v p1 p2 p3) [("java/lang/IndexOutOfBoundsException", 1), ("java/lang/IllegalArgumentException", 2), ("java/lang/IllegalStateException", 3)]) {H : Heap} {locs : List Loc} {ls : Array Slot} (hP : va_P D vwCl (wM cI cZ am v ++ wL cI cZ cJ ad o f u) H) (hD : va_D (fun q : Nat => s.heap.size ≤ q) (wM cI cZ am v ++ wL cI cZ cJ ad o f u)) (hS : va_S (fun q : Nat => s.heap.size ≤ q) s.heap H locs) (hl : lv_has ls 7 [(0, .ref b), (1, .ref (ad 0)), (2, .ref (am 0)), (3, .ref o), (4, .int i)]) (kk : ∀ (u' : GS) (v' : MS) (f' : Nat → Int64) (H : Heap) (locs : List Loc) (ls : Array Slot), Rel u' v' → va_P D vwCl (wM cI cZ am v' ++ wL cI cZ cJ ad o f' u') H → va_D (fun q : Nat => s.heap.size ≤ q) (wM cI cZ am v' ++ wL cI cZ cJ ad o f' u') → va_S (fun q : Nat => s.heap.size ≤ q) s.heap H locs → lv_has ls 7 [(0, .ref b), (1, .ref (ad 0)), (2, .ref (am 0)), (3, .ref o), (4, .int i)] → W p l e room_1 s m #[Value.ref b] below meth c H locs (60 + (j + 1)) (5141 + 6 * (j + 1)) (lw_Z below #[Value.ref b] s) (F0 m 1764 ls [])) : W p l e room_1 s m #[Value.ref b] below meth c H locs (60 + j) (5141 + 6 * j) (lw_Z below #[Value.ref b] s) (F0 m 1677 ls []) := by
  obtain ⟨hx, hb, hr, hml, hown, hts0, hX, hbl, hlocks, hgv⟩ := id C0
  have hts : ∀ w ∈ Wall, w.before #[Value.ref b] s = true := fun w h => hts0 w (wall_tbl w h)
  have hA : ∀ q : Nat, s.heap.size ≤ q → (fun q : Nat => s.heap.size ≤ q) q := fun _ h => h
  have hbA : ¬ (fun q : Nat => s.heap.size ≤ q) b := Nat.not_le.mpr hbl
  obtain ⟨-, hi1, hi2, hi3, hi4, hi5⟩ := hi
  rcases hsim with ⟨r, u', v', hc, hm, ht, hrel⟩ | ⟨q, u', b9, v', hq, hc, hm, ht, hrel⟩
  · refine lv_aload_n hx hb dL_law_1677 rfl (lv_at hl 1 rfl) ?_
    refine lv_aload_n hx hb dL_law_1678 rfl (lv_at hl 0 rfl) ?_
    refine lv_iload hx hb dL_law_1679 (lv_at hl 4 rfl) ?_
    refine lv_iconst (v := 1) hx hb dL_law_1681 (by decide) ?_
    refine lv_iadd hx hb dL_law_1682 ?_
    refine va_sld hx hb hX hbl hbA hS hi1 dL_law_1683 ?_
    refine lv_topn hp1 ?_
    refine lv_aload_n hx hb dL_law_1684 rfl (lv_at hl 0 rfl) ?_
    refine lv_iload hx hb dL_law_1685 (lv_at hl 4 rfl) ?_
    refine lv_iconst (v := 2) hx hb dL_law_1687 (by decide) ?_
    refine lv_iadd hx hb dL_law_1688 ?_
    refine va_sld hx hb hX hbl hbA hS hi2 dL_law_1689 ?_
    refine lv_topn hp2 ?_
    refine lv_aload_n hx hb dL_law_1690 rfl (lv_at hl 0 rfl) ?_
    refine lv_iload hx hb dL_law_1691 (lv_at hl 4 rfl) ?_
    refine lv_iconst (v := 3) hx hb dL_law_1693 (by decide) ?_
    refine lv_iadd hx hb dL_law_1694 ?_
    refine va_sld hx hb hX hbl hbA hS hi3 dL_law_1695 ?_
    refine lv_topn hp3 ?_
    refine lv_aload_n hx hb dL_law_1696 rfl (lv_at hl 3 rfl) ?_
    refine cc_iSHF (As := [.ref (ad 0), .int p1, .int p2, .int p3, .ref o]) (rest := []) (wr := wM cI cZ am v) ⟨hx, hb, hml, hown, hts⟩ (k_L_isFined l D cI cZ cJ ad o f u p1 p2 p3 hc) (vx_cwSW 5 hts (gwSH mw_831 mw_832 mw_47 mw_833) rfl rfl rfl (by decide +kernel) ⟨(Nat.le_of_ble_eq_true rfl), (Nat.le_of_ble_eq_true rfl)⟩) hK hP hD hS hA hZ [24, 25, 26, 27, 28, 29, 30, 31, 32, 33, 34, 35, 36, 37, 38, 39, 40, 41, 42, 43, 44, 45, 46, 47, 48, 49, 50, 51, 52, 53, 54, 55, 56, 57, 58, 59] [0, 1, 2, 3, 4, 5, 6, 7, 8, 9, 10, 11, 12, 13, 14, 15, 16, 17, 18, 19, 20, 21, 22, 23] rfl rfl (by decide) rfl (by decide) (by decide) rfl hl.1 rfl (Nat.le_of_ble_eq_true rfl) dL_law_1697 ⟨by show 60 + j ≤ 1087; omega, by show 5141 + 6 * j ≤ 13351; omega⟩ (fun H locs hP hD hS => ?_)
    replace hP : va_P D vwCl (wM cI cZ am v ++ wL cI cZ cJ ad o (vp_updL f (0 : Int32).toNatClampNeg (if r = 0 then 0 else 1)) u') H := hP
    replace hD : va_D (fun q : Nat => s.heap.size ≤ q) (wM cI cZ am v ++ wL cI cZ cJ ad o (vp_updL f (0 : Int32).toNatClampNeg (if r = 0 then 0 else 1)) u') := hD
    refine W.widen (k := 60 + (j + 1)) (n := 5141 + 6 * (j + 1)) (by omega) (by omega) ?_
    refine lv_istore (lv' := [(5, .int 0), (0, .ref b), (1, .ref (ad 0)), (2, .ref (am 0)), (3, .ref o), (4, .int i)]) hx hb dL_law_1700 hl (by decide) rfl (fun ls hl => ?_)
    refine lv_aload_n hx hb dL_law_1702 rfl (lv_at hl 3 rfl) ?_
    refine lv_aload_n hx hb dL_law_1703 rfl (lv_at hl 1 rfl) ?_
    refine lv_iload hx hb dL_law_1704 (lv_at hl 5 rfl) ?_
    refine lv_iconst (v := 1) hx hb dL_law_1706 (by decide) ?_
    refine lv_iadd hx hb dL_law_1707 ?_
    refine va_sld hx hb hX hbl hbA hS hi1 dL_law_1708 ?_
    refine lv_topn hp1 ?_
    refine lv_aload_n hx hb dL_law_1709 rfl (lv_at hl 1 rfl) ?_
    refine lv_iload hx hb dL_law_1710 (lv_at hl 5 rfl) ?_
    refine lv_iconst (v := 2) hx hb dL_law_1712 (by decide) ?_
    refine lv_iadd hx hb dL_law_1713 ?_
    refine va_sld hx hb hX hbl hbA hS hi2 dL_law_1714 ?_
    refine lv_topn hp2 ?_
    refine lv_aload_n hx hb dL_law_1715 rfl (lv_at hl 1 rfl) ?_
    refine lv_iload hx hb dL_law_1716 (lv_at hl 5 rfl) ?_
    refine lv_iconst (v := 3) hx hb dL_law_1718 (by decide) ?_
    refine lv_iadd hx hb dL_law_1719 ?_
    refine va_sld hx hb hX hbl hbA hS hi3 dL_law_1720 ?_
    refine lv_topn hp3 ?_
    refine cc_iVF (As := [.int p1, .int p2, .int p3]) (rest := []) (wr := wL cI cZ cJ ad o (vp_updL f (0 : Int32).toNatClampNeg (if r = 0 then 0 else 1)) u') ⟨hx, hb, hml, hown, hts⟩ (k_X10_isFined l D cI cZ am v p1 p2 p3 hm) (cwV 3 hts (gwV mw_1173 mw_1174 mw_1175 mw_59 mw_1176) rfl rfl rfl (by decide +kernel) ⟨(Nat.le_of_ble_eq_true rfl), (Nat.le_of_ble_eq_true rfl)⟩) (hK.sub [0, 1] rfl) hP hD hS hA hZ [0, 1, 2, 3, 4, 5, 6, 7, 8, 9, 10, 11, 12, 13, 14, 15, 16, 17, 18, 19, 20, 21, 22, 23] [24, 25, 26, 27, 28, 29, 30, 31, 32, 33, 34, 35, 36, 37, 38, 39, 40, 41, 42, 43, 44, 45, 46, 47, 48, 49, 50, 51, 52, 53, 54, 55, 56, 57, 58, 59] rfl rfl (by decide) rfl (by decide) (by decide) (ci := 10) (q0 := 0) rfl rfl rfl hl.1 rfl (Nat.le_of_ble_eq_true rfl) dL_law_1721 ⟨by show 60 + (j + 1) ≤ 1087; omega, by show 5141 + 6 * (j + 1) ≤ 13351; omega⟩ (fun H locs hP hD hS => ?_)
    replace hP : va_P D vwCl (wM cI cZ am v' ++ wL cI cZ cJ ad o (vp_updL f (0 : Int32).toNatClampNeg (if r = 0 then 0 else 1)) u') H := hP.sub [36, 37, 38, 39, 40, 41, 42, 43, 44, 45, 46, 47, 48, 49, 50, 51, 52, 53, 54, 55, 56, 57, 58, 59, 0, 1, 2, 3, 4, 5, 6, 7, 8, 9, 10, 11, 12, 13, 14, 15, 16, 17, 18, 19, 20, 21, 22, 23, 24, 25, 26, 27, 28, 29, 30, 31, 32, 33, 34, 35] rfl
    replace hD : va_D (fun q : Nat => s.heap.size ≤ q) (wM cI cZ am v' ++ wL cI cZ cJ ad o (vp_updL f (0 : Int32).toNatClampNeg (if r = 0 then 0 else 1)) u') := hD.sub [36, 37, 38, 39, 40, 41, 42, 43, 44, 45, 46, 47, 48, 49, 50, 51, 52, 53, 54, 55, 56, 57, 58, 59, 0, 1, 2, 3, 4, 5, 6, 7, 8, 9, 10, 11, 12, 13, 14, 15, 16, 17, 18, 19, 20, 21, 22, 23, 24, 25, 26, 27, 28, 29, 30, 31, 32, 33, 34, 35] (by decide) rfl
    refine lv_istore (lv' := [(6, .int r), (5, .int 0), (0, .ref b), (1, .ref (ad 0)), (2, .ref (am 0)), (3, .ref o), (4, .int i)]) hx hb dL_law_1724 hl (by decide) rfl (fun ls hl => ?_)
    refine lv_aload_n hx hb dL_law_1726 rfl (lv_at hl 4 rfl) ?_
    refine cc_iVF (As := []) (rest := []) (wr := wL cI cZ cJ ad o (vp_updL f (0 : Int32).toNatClampNeg (if r = 0 then 0 else 1)) u') ⟨hx, hb, hml, hown, hts⟩ (k_X10_thrown l D cI cZ am v' rfl) (cwV 0 hts (gwV mw_968 mw_969 mw_970 mw_59 mw_971) rfl rfl rfl (by decide +kernel) ⟨(Nat.le_of_ble_eq_true rfl), (Nat.le_of_ble_eq_true rfl)⟩) (hK.sub [0, 1] rfl) hP hD hS hA hZ [0, 1, 2, 3, 4, 5, 6, 7, 8, 9, 10, 11, 12, 13, 14, 15, 16, 17, 18, 19, 20, 21, 22, 23] [24, 25, 26, 27, 28, 29, 30, 31, 32, 33, 34, 35, 36, 37, 38, 39, 40, 41, 42, 43, 44, 45, 46, 47, 48, 49, 50, 51, 52, 53, 54, 55, 56, 57, 58, 59] rfl rfl (by decide) rfl (by decide) (by decide) (ci := 10) (q0 := 0) rfl rfl rfl hl.1 rfl (Nat.le_of_ble_eq_true rfl) dL_law_1727 ⟨by show 60 + (j + 1) ≤ 1087; omega, by show 5141 + 6 * (j + 1) ≤ 13351; omega⟩ (fun H locs hP hD hS => ?_)
    replace hP : va_P D vwCl (wM cI cZ am v' ++ wL cI cZ cJ ad o (vp_updL f (0 : Int32).toNatClampNeg (if r = 0 then 0 else 1)) u') H := hP.sub [36, 37, 38, 39, 40, 41, 42, 43, 44, 45, 46, 47, 48, 49, 50, 51, 52, 53, 54, 55, 56, 57, 58, 59, 0, 1, 2, 3, 4, 5, 6, 7, 8, 9, 10, 11, 12, 13, 14, 15, 16, 17, 18, 19, 20, 21, 22, 23, 24, 25, 26, 27, 28, 29, 30, 31, 32, 33, 34, 35] rfl
    replace hD : va_D (fun q : Nat => s.heap.size ≤ q) (wM cI cZ am v' ++ wL cI cZ cJ ad o (vp_updL f (0 : Int32).toNatClampNeg (if r = 0 then 0 else 1)) u') := hD.sub [36, 37, 38, 39, 40, 41, 42, 43, 44, 45, 46, 47, 48, 49, 50, 51, 52, 53, 54, 55, 56, 57, 58, 59, 0, 1, 2, 3, 4, 5, 6, 7, 8, 9, 10, 11, 12, 13, 14, 15, 16, 17, 18, 19, 20, 21, 22, 23, 24, 25, 26, 27, 28, 29, 30, 31, 32, 33, 34, 35] (by decide) rfl
    refine lv_iload hx hb dL_law_1730 (lv_at hl 1 rfl) ?_
    refine lv_icmp_eq (tgt := 1737) hx hb dL_law_1732 (by decide) (fun _ => ?_) (fun c1 => absurd ht c1)
    refine lv_iload hx hb dL_law_1737 (lv_at hl 1 rfl) ?_
    refine lv_if_ne (tgt := 1761) hx hb dL_law_1739 (by decide) (fun c1 => absurd rfl c1) (fun _ => ?_)
    refine lv_aload_n hx hb dL_law_1742 rfl (lv_at hl 5 rfl) ?_
    refine lv_iconst (v := 0) hx hb dL_law_1743 (by decide) ?_
    refine va_lald (D := D) hx hb hK hP 24 2 rfl rfl (by unfold vp_in; decide) dL_law_1744 ?_
    refine lv_iload hx hb dL_law_1745 (lv_at hl 0 rfl) ?_
    refine lv_if_eq (tgt := 1754) hx hb dL_law_1747 (by decide) (fun c3 => ?_) (fun c3 => ?_)
    · refine lv_lconst (v := 0) hx hb dL_law_1754 (by decide) ?_
      refine W.lcmp hx hb dL_law_1755 ?_
      refine lv_if_eq (tgt := 1761) hx hb dL_law_1756 (by decide) (fun _ => ?_) (fun c2 => absurd (by simp [lg_cmp, vp_updL, c3]) c2)
      refine lv_goto (tgt := 1764) hx hb dL_law_1761 (by decide) ?_
      exact kk _ _ _ _ _ ls hrel hP hD hS (lv_sub hl [2, 3, 4, 5, 6] rfl)
    · refine lv_lconst (v := 1) hx hb dL_law_1750 (by decide) ?_
      refine lv_goto (tgt := 1755) hx hb dL_law_1751 (by decide) ?_
      refine W.lcmp hx hb dL_law_1755 ?_
      refine lv_if_eq (tgt := 1761) hx hb dL_law_1756 (by decide) (fun _ => ?_) (fun c2 => absurd (by simp [lg_cmp, vp_updL, c3]) c2)
      refine lv_goto (tgt := 1764) hx hb dL_law_1761 (by decide) ?_
      exact kk _ _ _ _ _ ls hrel hP hD hS (lv_sub hl [2, 3, 4, 5, 6] rfl)
  · rcases List.mem_cons.mp hq with rfl | hq
    · refine lv_aload_n hx hb dL_law_1677 rfl (lv_at hl 1 rfl) ?_
      refine lv_aload_n hx hb dL_law_1678 rfl (lv_at hl 0 rfl) ?_
      refine lv_iload hx hb dL_law_1679 (lv_at hl 4 rfl) ?_
      refine lv_iconst (v := 1) hx hb dL_law_1681 (by decide) ?_
      refine lv_iadd hx hb dL_law_1682 ?_
      refine va_sld hx hb hX hbl hbA hS hi1 dL_law_1683 ?_
      refine lv_topn hp1 ?_
      refine lv_aload_n hx hb dL_law_1684 rfl (lv_at hl 0 rfl) ?_
      refine lv_iload hx hb dL_law_1685 (lv_at hl 4 rfl) ?_
      refine lv_iconst (v := 2) hx hb dL_law_1687 (by decide) ?_
      refine lv_iadd hx hb dL_law_1688 ?_
      refine va_sld hx hb hX hbl hbA hS hi2 dL_law_1689 ?_
      refine lv_topn hp2 ?_
      refine lv_aload_n hx hb dL_law_1690 rfl (lv_at hl 0 rfl) ?_
      refine lv_iload hx hb dL_law_1691 (lv_at hl 4 rfl) ?_
      refine lv_iconst (v := 3) hx hb dL_law_1693 (by decide) ?_
      refine lv_iadd hx hb dL_law_1694 ?_
      refine va_sld hx hb hX hbl hbA hS hi3 dL_law_1695 ?_
      refine lv_topn hp3 ?_
      refine lv_aload_n hx hb dL_law_1696 rfl (lv_at hl 3 rfl) ?_
      refine cc_iSHF (As := [.ref (ad 0), .int p1, .int p2, .int p3, .ref o]) (rest := []) (wr := wM cI cZ am v) ⟨hx, hb, hml, hown, hts⟩ (kx1_L_isFined l hl0 D cI cZ cJ ad o f u p1 p2 p3 hc) (vx_cwSW 5 hts (gwSH mw_831 mw_832 mw_47 mw_833) rfl rfl rfl (by decide +kernel) ⟨(Nat.le_of_ble_eq_true rfl), (Nat.le_of_ble_eq_true rfl)⟩) hK hP hD hS hA hZ [24, 25, 26, 27, 28, 29, 30, 31, 32, 33, 34, 35, 36, 37, 38, 39, 40, 41, 42, 43, 44, 45, 46, 47, 48, 49, 50, 51, 52, 53, 54, 55, 56, 57, 58, 59] [0, 1, 2, 3, 4, 5, 6, 7, 8, 9, 10, 11, 12, 13, 14, 15, 16, 17, 18, 19, 20, 21, 22, 23] rfl rfl (by decide) rfl (by decide) (by decide) rfl hl.1 rfl (Nat.le_of_ble_eq_true rfl) dL_law_1697 ⟨by show 60 + j + 1 ≤ 1087; omega, by show 5141 + 6 * j + 6 ≤ 13351; omega⟩ (fun H locs hP hD hS => ?_)
      replace hP : va_P D vwCl (wM cI cZ am v ++ wL cI cZ cJ ad o f u') H := hP
      replace hD : va_D (fun q : Nat => s.heap.size ≤ q) (wM cI cZ am v ++ wL cI cZ cJ ad o f u') := hD
      refine W.widen (k := 60 + (j + 1)) (n := 5141 + 6 * (j + 1)) (by omega) (by omega) ?_
      refine lv_istore (lv' := [(5, .int 1), (0, .ref b), (1, .ref (ad 0)), (2, .ref (am 0)), (3, .ref o), (4, .int i)]) hx hb dL_law_1700 hl (by decide) rfl (fun ls hl => ?_)
      refine lv_aload_n hx hb dL_law_1702 rfl (lv_at hl 3 rfl) ?_
      refine lv_aload_n hx hb dL_law_1703 rfl (lv_at hl 1 rfl) ?_
      refine lv_iload hx hb dL_law_1704 (lv_at hl 5 rfl) ?_
      refine lv_iconst (v := 1) hx hb dL_law_1706 (by decide) ?_
      refine lv_iadd hx hb dL_law_1707 ?_
      refine va_sld hx hb hX hbl hbA hS hi1 dL_law_1708 ?_
      refine lv_topn hp1 ?_
      refine lv_aload_n hx hb dL_law_1709 rfl (lv_at hl 1 rfl) ?_
      refine lv_iload hx hb dL_law_1710 (lv_at hl 5 rfl) ?_
      refine lv_iconst (v := 2) hx hb dL_law_1712 (by decide) ?_
      refine lv_iadd hx hb dL_law_1713 ?_
      refine va_sld hx hb hX hbl hbA hS hi2 dL_law_1714 ?_
      refine lv_topn hp2 ?_
      refine lv_aload_n hx hb dL_law_1715 rfl (lv_at hl 1 rfl) ?_
      refine lv_iload hx hb dL_law_1716 (lv_at hl 5 rfl) ?_
      refine lv_iconst (v := 3) hx hb dL_law_1718 (by decide) ?_
      refine lv_iadd hx hb dL_law_1719 ?_
      refine va_sld hx hb hX hbl hbA hS hi3 dL_law_1720 ?_
      refine lv_topn hp3 ?_
      refine cc_iVF (As := [.int p1, .int p2, .int p3]) (rest := []) (wr := wL cI cZ cJ ad o f u') ⟨hx, hb, hml, hown, hts⟩ (k_X10_isFined l D cI cZ am v p1 p2 p3 hm) (cwV 3 hts (gwV mw_1173 mw_1174 mw_1175 mw_59 mw_1176) rfl rfl rfl (by decide +kernel) ⟨(Nat.le_of_ble_eq_true rfl), (Nat.le_of_ble_eq_true rfl)⟩) (hK.sub [0, 1] rfl) hP hD hS hA hZ [0, 1, 2, 3, 4, 5, 6, 7, 8, 9, 10, 11, 12, 13, 14, 15, 16, 17, 18, 19, 20, 21, 22, 23] [24, 25, 26, 27, 28, 29, 30, 31, 32, 33, 34, 35, 36, 37, 38, 39, 40, 41, 42, 43, 44, 45, 46, 47, 48, 49, 50, 51, 52, 53, 54, 55, 56, 57, 58, 59] rfl rfl (by decide) rfl (by decide) (by decide) (ci := 10) (q0 := 0) rfl rfl rfl hl.1 rfl (Nat.le_of_ble_eq_true rfl) dL_law_1721 ⟨by show 60 + (j + 1) ≤ 1087; omega, by show 5141 + 6 * (j + 1) ≤ 13351; omega⟩ (fun H locs hP hD hS => ?_)
      replace hP : va_P D vwCl (wM cI cZ am v' ++ wL cI cZ cJ ad o f u') H := hP.sub [36, 37, 38, 39, 40, 41, 42, 43, 44, 45, 46, 47, 48, 49, 50, 51, 52, 53, 54, 55, 56, 57, 58, 59, 0, 1, 2, 3, 4, 5, 6, 7, 8, 9, 10, 11, 12, 13, 14, 15, 16, 17, 18, 19, 20, 21, 22, 23, 24, 25, 26, 27, 28, 29, 30, 31, 32, 33, 34, 35] rfl
      replace hD : va_D (fun q : Nat => s.heap.size ≤ q) (wM cI cZ am v' ++ wL cI cZ cJ ad o f u') := hD.sub [36, 37, 38, 39, 40, 41, 42, 43, 44, 45, 46, 47, 48, 49, 50, 51, 52, 53, 54, 55, 56, 57, 58, 59, 0, 1, 2, 3, 4, 5, 6, 7, 8, 9, 10, 11, 12, 13, 14, 15, 16, 17, 18, 19, 20, 21, 22, 23, 24, 25, 26, 27, 28, 29, 30, 31, 32, 33, 34, 35] (by decide) rfl
      refine lv_istore (lv' := [(6, .int b9), (5, .int 1), (0, .ref b), (1, .ref (ad 0)), (2, .ref (am 0)), (3, .ref o), (4, .int i)]) hx hb dL_law_1724 hl (by decide) rfl (fun ls hl => ?_)
      refine lv_aload_n hx hb dL_law_1726 rfl (lv_at hl 4 rfl) ?_
      refine cc_iVF (As := []) (rest := []) (wr := wL cI cZ cJ ad o f u') ⟨hx, hb, hml, hown, hts⟩ (k_X10_thrown l D cI cZ am v' rfl) (cwV 0 hts (gwV mw_968 mw_969 mw_970 mw_59 mw_971) rfl rfl rfl (by decide +kernel) ⟨(Nat.le_of_ble_eq_true rfl), (Nat.le_of_ble_eq_true rfl)⟩) (hK.sub [0, 1] rfl) hP hD hS hA hZ [0, 1, 2, 3, 4, 5, 6, 7, 8, 9, 10, 11, 12, 13, 14, 15, 16, 17, 18, 19, 20, 21, 22, 23] [24, 25, 26, 27, 28, 29, 30, 31, 32, 33, 34, 35, 36, 37, 38, 39, 40, 41, 42, 43, 44, 45, 46, 47, 48, 49, 50, 51, 52, 53, 54, 55, 56, 57, 58, 59] rfl rfl (by decide) rfl (by decide) (by decide) (ci := 10) (q0 := 0) rfl rfl rfl hl.1 rfl (Nat.le_of_ble_eq_true rfl) dL_law_1727 ⟨by show 60 + (j + 1) ≤ 1087; omega, by show 5141 + 6 * (j + 1) ≤ 13351; omega⟩ (fun H locs hP hD hS => ?_)
      replace hP : va_P D vwCl (wM cI cZ am v' ++ wL cI cZ cJ ad o f u') H := hP.sub [36, 37, 38, 39, 40, 41, 42, 43, 44, 45, 46, 47, 48, 49, 50, 51, 52, 53, 54, 55, 56, 57, 58, 59, 0, 1, 2, 3, 4, 5, 6, 7, 8, 9, 10, 11, 12, 13, 14, 15, 16, 17, 18, 19, 20, 21, 22, 23, 24, 25, 26, 27, 28, 29, 30, 31, 32, 33, 34, 35] rfl
      replace hD : va_D (fun q : Nat => s.heap.size ≤ q) (wM cI cZ am v' ++ wL cI cZ cJ ad o f u') := hD.sub [36, 37, 38, 39, 40, 41, 42, 43, 44, 45, 46, 47, 48, 49, 50, 51, 52, 53, 54, 55, 56, 57, 58, 59, 0, 1, 2, 3, 4, 5, 6, 7, 8, 9, 10, 11, 12, 13, 14, 15, 16, 17, 18, 19, 20, 21, 22, 23, 24, 25, 26, 27, 28, 29, 30, 31, 32, 33, 34, 35] (by decide) rfl
      refine lv_iload hx hb dL_law_1730 (lv_at hl 1 rfl) ?_
      refine lv_icmp_eq (tgt := 1737) hx hb dL_law_1732 (by decide) (fun _ => ?_) (fun c1 => absurd ht c1)
      refine lv_iload hx hb dL_law_1737 (lv_at hl 1 rfl) ?_
      refine lv_if_ne (tgt := 1761) hx hb dL_law_1739 (by decide) (fun _ => ?_) (fun c1 => absurd c1 (by decide))
      refine lv_goto (tgt := 1764) hx hb dL_law_1761 (by decide) ?_
      exact kk _ _ _ _ _ ls hrel hP hD hS (lv_sub hl [2, 3, 4, 5, 6] rfl)
    · rcases List.mem_cons.mp hq with rfl | hq
      · refine lv_aload_n hx hb dL_law_1677 rfl (lv_at hl 1 rfl) ?_
        refine lv_aload_n hx hb dL_law_1678 rfl (lv_at hl 0 rfl) ?_
        refine lv_iload hx hb dL_law_1679 (lv_at hl 4 rfl) ?_
        refine lv_iconst (v := 1) hx hb dL_law_1681 (by decide) ?_
        refine lv_iadd hx hb dL_law_1682 ?_
        refine va_sld hx hb hX hbl hbA hS hi1 dL_law_1683 ?_
        refine lv_topn hp1 ?_
        refine lv_aload_n hx hb dL_law_1684 rfl (lv_at hl 0 rfl) ?_
        refine lv_iload hx hb dL_law_1685 (lv_at hl 4 rfl) ?_
        refine lv_iconst (v := 2) hx hb dL_law_1687 (by decide) ?_
        refine lv_iadd hx hb dL_law_1688 ?_
        refine va_sld hx hb hX hbl hbA hS hi2 dL_law_1689 ?_
        refine lv_topn hp2 ?_
        refine lv_aload_n hx hb dL_law_1690 rfl (lv_at hl 0 rfl) ?_
        refine lv_iload hx hb dL_law_1691 (lv_at hl 4 rfl) ?_
        refine lv_iconst (v := 3) hx hb dL_law_1693 (by decide) ?_
        refine lv_iadd hx hb dL_law_1694 ?_
        refine va_sld hx hb hX hbl hbA hS hi3 dL_law_1695 ?_
        refine lv_topn hp3 ?_
        refine lv_aload_n hx hb dL_law_1696 rfl (lv_at hl 3 rfl) ?_
        refine cc_iSHF (As := [.ref (ad 0), .int p1, .int p2, .int p3, .ref o]) (rest := []) (wr := wM cI cZ am v) ⟨hx, hb, hml, hown, hts⟩ (kx2_L_isFined l hl0 D cI cZ cJ ad o f u p1 p2 p3 hc) (vx_cwSW 5 hts (gwSH mw_831 mw_832 mw_47 mw_833) rfl rfl rfl (by decide +kernel) ⟨(Nat.le_of_ble_eq_true rfl), (Nat.le_of_ble_eq_true rfl)⟩) hK hP hD hS hA hZ [24, 25, 26, 27, 28, 29, 30, 31, 32, 33, 34, 35, 36, 37, 38, 39, 40, 41, 42, 43, 44, 45, 46, 47, 48, 49, 50, 51, 52, 53, 54, 55, 56, 57, 58, 59] [0, 1, 2, 3, 4, 5, 6, 7, 8, 9, 10, 11, 12, 13, 14, 15, 16, 17, 18, 19, 20, 21, 22, 23] rfl rfl (by decide) rfl (by decide) (by decide) rfl hl.1 rfl (Nat.le_of_ble_eq_true rfl) dL_law_1697 ⟨by show 60 + j + 1 ≤ 1087; omega, by show 5141 + 6 * j + 6 ≤ 13351; omega⟩ (fun H locs hP hD hS => ?_)
        replace hP : va_P D vwCl (wM cI cZ am v ++ wL cI cZ cJ ad o f u') H := hP
        replace hD : va_D (fun q : Nat => s.heap.size ≤ q) (wM cI cZ am v ++ wL cI cZ cJ ad o f u') := hD
        refine W.widen (k := 60 + (j + 1)) (n := 5141 + 6 * (j + 1)) (by omega) (by omega) ?_
        refine lv_istore (lv' := [(5, .int 2), (0, .ref b), (1, .ref (ad 0)), (2, .ref (am 0)), (3, .ref o), (4, .int i)]) hx hb dL_law_1700 hl (by decide) rfl (fun ls hl => ?_)
        refine lv_aload_n hx hb dL_law_1702 rfl (lv_at hl 3 rfl) ?_
        refine lv_aload_n hx hb dL_law_1703 rfl (lv_at hl 1 rfl) ?_
        refine lv_iload hx hb dL_law_1704 (lv_at hl 5 rfl) ?_
        refine lv_iconst (v := 1) hx hb dL_law_1706 (by decide) ?_
        refine lv_iadd hx hb dL_law_1707 ?_
        refine va_sld hx hb hX hbl hbA hS hi1 dL_law_1708 ?_
        refine lv_topn hp1 ?_
        refine lv_aload_n hx hb dL_law_1709 rfl (lv_at hl 1 rfl) ?_
        refine lv_iload hx hb dL_law_1710 (lv_at hl 5 rfl) ?_
        refine lv_iconst (v := 2) hx hb dL_law_1712 (by decide) ?_
        refine lv_iadd hx hb dL_law_1713 ?_
        refine va_sld hx hb hX hbl hbA hS hi2 dL_law_1714 ?_
        refine lv_topn hp2 ?_
        refine lv_aload_n hx hb dL_law_1715 rfl (lv_at hl 1 rfl) ?_
        refine lv_iload hx hb dL_law_1716 (lv_at hl 5 rfl) ?_
        refine lv_iconst (v := 3) hx hb dL_law_1718 (by decide) ?_
        refine lv_iadd hx hb dL_law_1719 ?_
        refine va_sld hx hb hX hbl hbA hS hi3 dL_law_1720 ?_
        refine lv_topn hp3 ?_
        refine cc_iVF (As := [.int p1, .int p2, .int p3]) (rest := []) (wr := wL cI cZ cJ ad o f u') ⟨hx, hb, hml, hown, hts⟩ (k_X10_isFined l D cI cZ am v p1 p2 p3 hm) (cwV 3 hts (gwV mw_1173 mw_1174 mw_1175 mw_59 mw_1176) rfl rfl rfl (by decide +kernel) ⟨(Nat.le_of_ble_eq_true rfl), (Nat.le_of_ble_eq_true rfl)⟩) (hK.sub [0, 1] rfl) hP hD hS hA hZ [0, 1, 2, 3, 4, 5, 6, 7, 8, 9, 10, 11, 12, 13, 14, 15, 16, 17, 18, 19, 20, 21, 22, 23] [24, 25, 26, 27, 28, 29, 30, 31, 32, 33, 34, 35, 36, 37, 38, 39, 40, 41, 42, 43, 44, 45, 46, 47, 48, 49, 50, 51, 52, 53, 54, 55, 56, 57, 58, 59] rfl rfl (by decide) rfl (by decide) (by decide) (ci := 10) (q0 := 0) rfl rfl rfl hl.1 rfl (Nat.le_of_ble_eq_true rfl) dL_law_1721 ⟨by show 60 + (j + 1) ≤ 1087; omega, by show 5141 + 6 * (j + 1) ≤ 13351; omega⟩ (fun H locs hP hD hS => ?_)
        replace hP : va_P D vwCl (wM cI cZ am v' ++ wL cI cZ cJ ad o f u') H := hP.sub [36, 37, 38, 39, 40, 41, 42, 43, 44, 45, 46, 47, 48, 49, 50, 51, 52, 53, 54, 55, 56, 57, 58, 59, 0, 1, 2, 3, 4, 5, 6, 7, 8, 9, 10, 11, 12, 13, 14, 15, 16, 17, 18, 19, 20, 21, 22, 23, 24, 25, 26, 27, 28, 29, 30, 31, 32, 33, 34, 35] rfl
        replace hD : va_D (fun q : Nat => s.heap.size ≤ q) (wM cI cZ am v' ++ wL cI cZ cJ ad o f u') := hD.sub [36, 37, 38, 39, 40, 41, 42, 43, 44, 45, 46, 47, 48, 49, 50, 51, 52, 53, 54, 55, 56, 57, 58, 59, 0, 1, 2, 3, 4, 5, 6, 7, 8, 9, 10, 11, 12, 13, 14, 15, 16, 17, 18, 19, 20, 21, 22, 23, 24, 25, 26, 27, 28, 29, 30, 31, 32, 33, 34, 35] (by decide) rfl
        refine lv_istore (lv' := [(6, .int b9), (5, .int 2), (0, .ref b), (1, .ref (ad 0)), (2, .ref (am 0)), (3, .ref o), (4, .int i)]) hx hb dL_law_1724 hl (by decide) rfl (fun ls hl => ?_)
        refine lv_aload_n hx hb dL_law_1726 rfl (lv_at hl 4 rfl) ?_
        refine cc_iVF (As := []) (rest := []) (wr := wL cI cZ cJ ad o f u') ⟨hx, hb, hml, hown, hts⟩ (k_X10_thrown l D cI cZ am v' rfl) (cwV 0 hts (gwV mw_968 mw_969 mw_970 mw_59 mw_971) rfl rfl rfl (by decide +kernel) ⟨(Nat.le_of_ble_eq_true rfl), (Nat.le_of_ble_eq_true rfl)⟩) (hK.sub [0, 1] rfl) hP hD hS hA hZ [0, 1, 2, 3, 4, 5, 6, 7, 8, 9, 10, 11, 12, 13, 14, 15, 16, 17, 18, 19, 20, 21, 22, 23] [24, 25, 26, 27, 28, 29, 30, 31, 32, 33, 34, 35, 36, 37, 38, 39, 40, 41, 42, 43, 44, 45, 46, 47, 48, 49, 50, 51, 52, 53, 54, 55, 56, 57, 58, 59] rfl rfl (by decide) rfl (by decide) (by decide) (ci := 10) (q0 := 0) rfl rfl rfl hl.1 rfl (Nat.le_of_ble_eq_true rfl) dL_law_1727 ⟨by show 60 + (j + 1) ≤ 1087; omega, by show 5141 + 6 * (j + 1) ≤ 13351; omega⟩ (fun H locs hP hD hS => ?_)
        replace hP : va_P D vwCl (wM cI cZ am v' ++ wL cI cZ cJ ad o f u') H := hP.sub [36, 37, 38, 39, 40, 41, 42, 43, 44, 45, 46, 47, 48, 49, 50, 51, 52, 53, 54, 55, 56, 57, 58, 59, 0, 1, 2, 3, 4, 5, 6, 7, 8, 9, 10, 11, 12, 13, 14, 15, 16, 17, 18, 19, 20, 21, 22, 23, 24, 25, 26, 27, 28, 29, 30, 31, 32, 33, 34, 35] rfl
        replace hD : va_D (fun q : Nat => s.heap.size ≤ q) (wM cI cZ am v' ++ wL cI cZ cJ ad o f u') := hD.sub [36, 37, 38, 39, 40, 41, 42, 43, 44, 45, 46, 47, 48, 49, 50, 51, 52, 53, 54, 55, 56, 57, 58, 59, 0, 1, 2, 3, 4, 5, 6, 7, 8, 9, 10, 11, 12, 13, 14, 15, 16, 17, 18, 19, 20, 21, 22, 23, 24, 25, 26, 27, 28, 29, 30, 31, 32, 33, 34, 35] (by decide) rfl
        refine lv_iload hx hb dL_law_1730 (lv_at hl 1 rfl) ?_
        refine lv_icmp_eq (tgt := 1737) hx hb dL_law_1732 (by decide) (fun _ => ?_) (fun c1 => absurd ht c1)
        refine lv_iload hx hb dL_law_1737 (lv_at hl 1 rfl) ?_
        refine lv_if_ne (tgt := 1761) hx hb dL_law_1739 (by decide) (fun _ => ?_) (fun c1 => absurd c1 (by decide))
        refine lv_goto (tgt := 1764) hx hb dL_law_1761 (by decide) ?_
        exact kk _ _ _ _ _ ls hrel hP hD hS (lv_sub hl [2, 3, 4, 5, 6] rfl)
      · rcases List.mem_cons.mp hq with rfl | hq
        · refine lv_aload_n hx hb dL_law_1677 rfl (lv_at hl 1 rfl) ?_
          refine lv_aload_n hx hb dL_law_1678 rfl (lv_at hl 0 rfl) ?_
          refine lv_iload hx hb dL_law_1679 (lv_at hl 4 rfl) ?_
          refine lv_iconst (v := 1) hx hb dL_law_1681 (by decide) ?_
          refine lv_iadd hx hb dL_law_1682 ?_
          refine va_sld hx hb hX hbl hbA hS hi1 dL_law_1683 ?_
          refine lv_topn hp1 ?_
          refine lv_aload_n hx hb dL_law_1684 rfl (lv_at hl 0 rfl) ?_
          refine lv_iload hx hb dL_law_1685 (lv_at hl 4 rfl) ?_
          refine lv_iconst (v := 2) hx hb dL_law_1687 (by decide) ?_
          refine lv_iadd hx hb dL_law_1688 ?_
          refine va_sld hx hb hX hbl hbA hS hi2 dL_law_1689 ?_
          refine lv_topn hp2 ?_
          refine lv_aload_n hx hb dL_law_1690 rfl (lv_at hl 0 rfl) ?_
          refine lv_iload hx hb dL_law_1691 (lv_at hl 4 rfl) ?_
          refine lv_iconst (v := 3) hx hb dL_law_1693 (by decide) ?_
          refine lv_iadd hx hb dL_law_1694 ?_
          refine va_sld hx hb hX hbl hbA hS hi3 dL_law_1695 ?_
          refine lv_topn hp3 ?_
          refine lv_aload_n hx hb dL_law_1696 rfl (lv_at hl 3 rfl) ?_
          refine cc_iSHF (As := [.ref (ad 0), .int p1, .int p2, .int p3, .ref o]) (rest := []) (wr := wM cI cZ am v) ⟨hx, hb, hml, hown, hts⟩ (kx3_L_isFined l hl0 D cI cZ cJ ad o f u p1 p2 p3 hc) (vx_cwSW 5 hts (gwSH mw_831 mw_832 mw_47 mw_833) rfl rfl rfl (by decide +kernel) ⟨(Nat.le_of_ble_eq_true rfl), (Nat.le_of_ble_eq_true rfl)⟩) hK hP hD hS hA hZ [24, 25, 26, 27, 28, 29, 30, 31, 32, 33, 34, 35, 36, 37, 38, 39, 40, 41, 42, 43, 44, 45, 46, 47, 48, 49, 50, 51, 52, 53, 54, 55, 56, 57, 58, 59] [0, 1, 2, 3, 4, 5, 6, 7, 8, 9, 10, 11, 12, 13, 14, 15, 16, 17, 18, 19, 20, 21, 22, 23] rfl rfl (by decide) rfl (by decide) (by decide) rfl hl.1 rfl (Nat.le_of_ble_eq_true rfl) dL_law_1697 ⟨by show 60 + j + 1 ≤ 1087; omega, by show 5141 + 6 * j + 6 ≤ 13351; omega⟩ (fun H locs hP hD hS => ?_)
          replace hP : va_P D vwCl (wM cI cZ am v ++ wL cI cZ cJ ad o f u') H := hP
          replace hD : va_D (fun q : Nat => s.heap.size ≤ q) (wM cI cZ am v ++ wL cI cZ cJ ad o f u') := hD
          refine W.widen (k := 60 + (j + 1)) (n := 5141 + 6 * (j + 1)) (by omega) (by omega) ?_
          refine lv_istore (lv' := [(5, .int 3), (0, .ref b), (1, .ref (ad 0)), (2, .ref (am 0)), (3, .ref o), (4, .int i)]) hx hb dL_law_1700 hl (by decide) rfl (fun ls hl => ?_)
          refine lv_aload_n hx hb dL_law_1702 rfl (lv_at hl 3 rfl) ?_
          refine lv_aload_n hx hb dL_law_1703 rfl (lv_at hl 1 rfl) ?_
          refine lv_iload hx hb dL_law_1704 (lv_at hl 5 rfl) ?_
          refine lv_iconst (v := 1) hx hb dL_law_1706 (by decide) ?_
          refine lv_iadd hx hb dL_law_1707 ?_
          refine va_sld hx hb hX hbl hbA hS hi1 dL_law_1708 ?_
          refine lv_topn hp1 ?_
          refine lv_aload_n hx hb dL_law_1709 rfl (lv_at hl 1 rfl) ?_
          refine lv_iload hx hb dL_law_1710 (lv_at hl 5 rfl) ?_
          refine lv_iconst (v := 2) hx hb dL_law_1712 (by decide) ?_
          refine lv_iadd hx hb dL_law_1713 ?_
          refine va_sld hx hb hX hbl hbA hS hi2 dL_law_1714 ?_
          refine lv_topn hp2 ?_
          refine lv_aload_n hx hb dL_law_1715 rfl (lv_at hl 1 rfl) ?_
          refine lv_iload hx hb dL_law_1716 (lv_at hl 5 rfl) ?_
          refine lv_iconst (v := 3) hx hb dL_law_1718 (by decide) ?_
          refine lv_iadd hx hb dL_law_1719 ?_
          refine va_sld hx hb hX hbl hbA hS hi3 dL_law_1720 ?_
          refine lv_topn hp3 ?_
          refine cc_iVF (As := [.int p1, .int p2, .int p3]) (rest := []) (wr := wL cI cZ cJ ad o f u') ⟨hx, hb, hml, hown, hts⟩ (k_X10_isFined l D cI cZ am v p1 p2 p3 hm) (cwV 3 hts (gwV mw_1173 mw_1174 mw_1175 mw_59 mw_1176) rfl rfl rfl (by decide +kernel) ⟨(Nat.le_of_ble_eq_true rfl), (Nat.le_of_ble_eq_true rfl)⟩) (hK.sub [0, 1] rfl) hP hD hS hA hZ [0, 1, 2, 3, 4, 5, 6, 7, 8, 9, 10, 11, 12, 13, 14, 15, 16, 17, 18, 19, 20, 21, 22, 23] [24, 25, 26, 27, 28, 29, 30, 31, 32, 33, 34, 35, 36, 37, 38, 39, 40, 41, 42, 43, 44, 45, 46, 47, 48, 49, 50, 51, 52, 53, 54, 55, 56, 57, 58, 59] rfl rfl (by decide) rfl (by decide) (by decide) (ci := 10) (q0 := 0) rfl rfl rfl hl.1 rfl (Nat.le_of_ble_eq_true rfl) dL_law_1721 ⟨by show 60 + (j + 1) ≤ 1087; omega, by show 5141 + 6 * (j + 1) ≤ 13351; omega⟩ (fun H locs hP hD hS => ?_)
          replace hP : va_P D vwCl (wM cI cZ am v' ++ wL cI cZ cJ ad o f u') H := hP.sub [36, 37, 38, 39, 40, 41, 42, 43, 44, 45, 46, 47, 48, 49, 50, 51, 52, 53, 54, 55, 56, 57, 58, 59, 0, 1, 2, 3, 4, 5, 6, 7, 8, 9, 10, 11, 12, 13, 14, 15, 16, 17, 18, 19, 20, 21, 22, 23, 24, 25, 26, 27, 28, 29, 30, 31, 32, 33, 34, 35] rfl
          replace hD : va_D (fun q : Nat => s.heap.size ≤ q) (wM cI cZ am v' ++ wL cI cZ cJ ad o f u') := hD.sub [36, 37, 38, 39, 40, 41, 42, 43, 44, 45, 46, 47, 48, 49, 50, 51, 52, 53, 54, 55, 56, 57, 58, 59, 0, 1, 2, 3, 4, 5, 6, 7, 8, 9, 10, 11, 12, 13, 14, 15, 16, 17, 18, 19, 20, 21, 22, 23, 24, 25, 26, 27, 28, 29, 30, 31, 32, 33, 34, 35] (by decide) rfl
          refine lv_istore (lv' := [(6, .int b9), (5, .int 3), (0, .ref b), (1, .ref (ad 0)), (2, .ref (am 0)), (3, .ref o), (4, .int i)]) hx hb dL_law_1724 hl (by decide) rfl (fun ls hl => ?_)
          refine lv_aload_n hx hb dL_law_1726 rfl (lv_at hl 4 rfl) ?_
          refine cc_iVF (As := []) (rest := []) (wr := wL cI cZ cJ ad o f u') ⟨hx, hb, hml, hown, hts⟩ (k_X10_thrown l D cI cZ am v' rfl) (cwV 0 hts (gwV mw_968 mw_969 mw_970 mw_59 mw_971) rfl rfl rfl (by decide +kernel) ⟨(Nat.le_of_ble_eq_true rfl), (Nat.le_of_ble_eq_true rfl)⟩) (hK.sub [0, 1] rfl) hP hD hS hA hZ [0, 1, 2, 3, 4, 5, 6, 7, 8, 9, 10, 11, 12, 13, 14, 15, 16, 17, 18, 19, 20, 21, 22, 23] [24, 25, 26, 27, 28, 29, 30, 31, 32, 33, 34, 35, 36, 37, 38, 39, 40, 41, 42, 43, 44, 45, 46, 47, 48, 49, 50, 51, 52, 53, 54, 55, 56, 57, 58, 59] rfl rfl (by decide) rfl (by decide) (by decide) (ci := 10) (q0 := 0) rfl rfl rfl hl.1 rfl (Nat.le_of_ble_eq_true rfl) dL_law_1727 ⟨by show 60 + (j + 1) ≤ 1087; omega, by show 5141 + 6 * (j + 1) ≤ 13351; omega⟩ (fun H locs hP hD hS => ?_)
          replace hP : va_P D vwCl (wM cI cZ am v' ++ wL cI cZ cJ ad o f u') H := hP.sub [36, 37, 38, 39, 40, 41, 42, 43, 44, 45, 46, 47, 48, 49, 50, 51, 52, 53, 54, 55, 56, 57, 58, 59, 0, 1, 2, 3, 4, 5, 6, 7, 8, 9, 10, 11, 12, 13, 14, 15, 16, 17, 18, 19, 20, 21, 22, 23, 24, 25, 26, 27, 28, 29, 30, 31, 32, 33, 34, 35] rfl
          replace hD : va_D (fun q : Nat => s.heap.size ≤ q) (wM cI cZ am v' ++ wL cI cZ cJ ad o f u') := hD.sub [36, 37, 38, 39, 40, 41, 42, 43, 44, 45, 46, 47, 48, 49, 50, 51, 52, 53, 54, 55, 56, 57, 58, 59, 0, 1, 2, 3, 4, 5, 6, 7, 8, 9, 10, 11, 12, 13, 14, 15, 16, 17, 18, 19, 20, 21, 22, 23, 24, 25, 26, 27, 28, 29, 30, 31, 32, 33, 34, 35] (by decide) rfl
          refine lv_iload hx hb dL_law_1730 (lv_at hl 1 rfl) ?_
          refine lv_icmp_eq (tgt := 1737) hx hb dL_law_1732 (by decide) (fun _ => ?_) (fun c1 => absurd ht c1)
          refine lv_iload hx hb dL_law_1737 (lv_at hl 1 rfl) ?_
          refine lv_if_ne (tgt := 1761) hx hb dL_law_1739 (by decide) (fun _ => ?_) (fun c1 => absurd c1 (by decide))
          refine lv_goto (tgt := 1764) hx hb dL_law_1761 (by decide) ?_
          exact kk _ _ _ _ _ ls hrel hP hD hS (lv_sub hl [2, 3, 4, 5, 6] rfl)
        · exact absurd hq List.not_mem_nil
