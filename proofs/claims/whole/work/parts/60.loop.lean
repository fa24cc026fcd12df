/-! THE LAW'S LOOP -/
theorem lp_head {L j : Nat} (hL : L ≤ 3072) (hj : 6 * j ≤ L) (h : ¬ Int32.ofNat L - 6 < nI (6 * j)) : 6 * j + 6 ≤ L := by
  have e1 : (Int32.ofNat L - 6 : Int32).toInt = (L : Int) - (6 : Nat) := pk_sub_toInt (a := L) (b := 6) (by omega) (by omega)
  have e2 : (nI (6 * j)).toInt = ((6 * j : Nat) : Int) := nI_toInt (by omega)
  have q : ¬ (Int32.ofNat L - 6 : Int32).toInt < (nI (6 * j)).toInt := fun z => h (Int32.lt_iff_toInt_lt.mpr z)
  rw [e1, e2] at q
  omega
theorem lin_of {L j : Nat} (hL : L ≤ 3072) (h : 6 * j + 6 ≤ L) : lin (nI (6 * j)) L := by
  have k : ∀ d : Nat, d < 6 → vp_in (nI (6 * j) + nI d) L := fun d hd => by
    rw [nI_add]
    exact vp_in_nI (by omega) (by omega)
  exact ⟨vp_in_nI (by omega) (by omega), k 1 (by omega), k 2 (by omega), k 3 (by omega), k 4 (by omega), k 5 (by omega)⟩
set_option maxHeartbeats 4000000 in
set_option maxRecDepth 100000 in
theorem law_loop {p : Program} {l : Launch} {e : Env} {s : State} {m : MethodId} {below : List Frame} {meth : Method} {c : Code} {b L : Nat} {xs : Nat → Int32} (hl0 : l.stackTraces = false) (hL : L ≤ 3072) (C0 : lw_At p s m meth c b L xs) (hZ : cst (fun q : Nat => s.heap.size ≤ q) s) {D : va_G} {cI cZ cJ : ClassId} (hK : va_K D vwCl [(cI, .int), (cZ, .boolean), (cJ, .long)] s) {am ad : Nat → Nat} {o : Nat} :
    ∀ (n j : Nat) (i : Int32), 6 * j ≤ L → L + 1 ≤ 6 * j + n → i = nI (6 * j) → ∀ (f : Nat → Int64) (u : GS) (v : MS), Rel u v → ∀ (H : Heap) (locs : List Loc) (ls : Array Slot), va_P D vwCl (wM cI cZ am v ++ wL cI cZ cJ ad o f u) H → va_D (fun q : Nat => s.heap.size ≤ q) (wM cI cZ am v ++ wL cI cZ cJ ad o f u) → va_S (fun q : Nat => s.heap.size ≤ q) s.heap H locs → lv_has ls 7 [(0, .ref b), (1, .ref (ad 0)), (2, .ref (am 0)), (3, .ref o), (4, .int i)] → W p l e room_1 s m #[Value.ref b] below meth c H locs (60 + j) (5141 + 6 * j) (lw_Z below #[Value.ref b] s) (F0 m 23 ls []) := by
  obtain ⟨hx, hb, hr, hml, hown, hts0, hX, hbl, hlocks, hgv⟩ := id C0
  have hbA : ¬ (fun q : Nat => s.heap.size ≤ q) b := Nat.not_le.mpr hbl
  intro n
  induction n with
  | zero =>
    intro j i h1 h2
    exact absurd h2 (by omega)
  | succ n ih =>
    intro j i h1 h2 ei f u v hR H locs ls hP hD hS hl
    refine lv_iload hx hb dL_law_23 (lv_at hl 4 rfl) ?_
    refine lv_aload_n hx hb dL_law_25 rfl (lv_at hl 0 rfl) ?_
    refine va_slen hx hb hX hbl hbA hS dL_law_26 ?_
    refine lv_bipush (v := 6) hx hb dL_law_27 (by decide) ?_
    refine lv_isub hx hb dL_law_29 ?_
    refine lv_icmp_gt (tgt := 1770) hx hb dL_law_30 (by decide) (fun _ => ?_) (fun ch => ?_)
    · refine lv_iconst (v := 1) hx hb dL_law_1770 (by decide) ?_
      refine va_forget (fun q hq => hS.2.2 q hq) ?_
      refine W.widen (k := 1087) (n := 13351) (by omega) (by omega) ?_
      exact lw_ret hx hb hr hlocks dL_law_1771
    · have hlt : 6 * j + 6 ≤ L := lp_head hL h1 (by rw [← ei]; exact ch)
      have hi : lin i L := by
        rw [ei]
        exact lin_of hL hlt
      have hj : j ≤ 511 := by omega
      refine lv_aload_n hx hb dL_law_33 rfl (lv_at hl 0 rfl) ?_
      refine lv_iload hx hb dL_law_34 (lv_at hl 4 rfl) ?_
      refine va_sld hx hb hX hbl hbA hS hi.1 dL_law_36 ?_
      refine lv_bipush (v := 31) hx hb dL_law_37 (by decide) ?_
      refine lv_iand hx hb dL_law_39 ?_
      refine lv_topi (fun y ey => ?_)
      clear ey
      have kk : ∀ (u' : GS) (v' : MS) (f' : Nat → Int64) (H : Heap) (locs : List Loc) (ls : Array Slot), Rel u' v' → va_P D vwCl (wM cI cZ am v' ++ wL cI cZ cJ ad o f' u') H → va_D (fun q : Nat => s.heap.size ≤ q) (wM cI cZ am v' ++ wL cI cZ cJ ad o f' u') → va_S (fun q : Nat => s.heap.size ≤ q) s.heap H locs → lv_has ls 7 [(0, .ref b), (1, .ref (ad 0)), (2, .ref (am 0)), (3, .ref o), (4, .int i)] → W p l e room_1 s m #[Value.ref b] below meth c H locs (60 + (j + 1)) (5141 + 6 * (j + 1)) (lw_Z below #[Value.ref b] s) (F0 m 1764 ls []) := by
        intro u' v' f' H locs ls hR hP hD hS hl
        obtain ⟨i2, ei2⟩ : ∃ z : Int32, z = i + 6 := ⟨_, rfl⟩
        refine lv_iinc (v := i2) (lv' := [(4, .int i2), (0, .ref b), (1, .ref (ad 0)), (2, .ref (am 0)), (3, .ref o)]) hx hb dL_law_1764 hl (k := 4) rfl (by rw [ei2]; rfl) (by decide) rfl (fun ls hl => ?_)
        refine lv_goto (tgt := 23) hx hb dL_law_1767 (by decide) ?_
        exact ih (j + 1) i2 (by omega) (by omega) (by rw [ei2, ei]; exact nI_add (6 * j) 6) f' u' v' hR H locs ls hP hD hS (lv_sub hl [1, 2, 3, 4, 0] rfl)
      by_cases q0 : y = 0
      · refine lv_tableIn (tgt := 160) (off := 120) hx hb dL_law_40 (by rw [q0]; decide) (by rw [q0]; decide) (by rw [q0]; decide) (by decide) ?_
        exact lc_demand (Rel := Rel) (u := u) (v := v) hl0 C0 hZ hK hj hi rfl (sim_demand hR _) hP hD hS hl kk
      by_cases q1 : y = 1
      · refine lv_tableIn (tgt := 216) (off := 176) hx hb dL_law_40 (by rw [q1]; decide) (by rw [q1]; decide) (by rw [q1]; decide) (by decide) ?_
        exact lc_pass (Rel := Rel) (u := u) (v := v) hl0 C0 hZ hK hj hi rfl (sim_pass hR _) hP hD hS hl kk
      by_cases q2 : y = 2
      · refine lv_tableIn (tgt := 272) (off := 232) hx hb dL_law_40 (by rw [q2]; decide) (by rw [q2]; decide) (by rw [q2]; decide) (by decide) ?_
        exact lc_holds (Rel := Rel) (u := u) (v := v) hl0 C0 hZ hK hj hi rfl rfl (sim_holds hR _ _) hP hD hS hl kk
      by_cases q3 : y = 3
      · refine lv_tableIn (tgt := 340) (off := 300) hx hb dL_law_40 (by rw [q3]; decide) (by rw [q3]; decide) (by rw [q3]; decide) (by decide) ?_
        exact lc_vehicles (Rel := Rel) (u := u) (v := v) hl0 C0 hZ hK hj hi rfl (sim_vehicles hR _) hP hD hS hl kk
      by_cases q4 : y = 4
      · refine lv_tableIn (tgt := 396) (off := 356) hx hb dL_law_40 (by rw [q4]; decide) (by rw [q4]; decide) (by rw [q4]; decide) (by decide) ?_
        exact lc_section (Rel := Rel) (u := u) (v := v) hl0 C0 hZ hK hj hi rfl rfl (sim_section hR _ _) hP hD hS hl kk
      by_cases q5 : y = 5
      · refine lv_tableIn (tgt := 464) (off := 424) hx hb dL_law_40 (by rw [q5]; decide) (by rw [q5]; decide) (by rw [q5]; decide) (by decide) ?_
        exact lc_detector (Rel := Rel) (u := u) (v := v) hl0 C0 hZ hK hj hi rfl rfl rfl (sim_detector hR _ _ _) hP hD hS hl kk
      by_cases q6 : y = 6
      · refine lv_tableIn (tgt := 544) (off := 504) hx hb dL_law_40 (by rw [q6]; decide) (by rw [q6]; decide) (by rw [q6]; decide) (by decide) ?_
        exact lc_weather (Rel := Rel) (u := u) (v := v) hl0 C0 hZ hK hj hi rfl (sim_weather hR _) hP hD hS hl kk
      by_cases q7 : y = 7
      · refine lv_tableIn (tgt := 600) (off := 560) hx hb dL_law_40 (by rw [q7]; decide) (by rw [q7]; decide) (by rw [q7]; decide) (by decide) ?_
        exact lc_limit (Rel := Rel) (u := u) (v := v) hl0 C0 hZ hK hj hi rfl rfl (sim_limit hR _ _) hP hD hS hl kk
      by_cases q8 : y = 8
      · refine lv_tableIn (tgt := 668) (off := 628) hx hb dL_law_40 (by rw [q8]; decide) (by rw [q8]; decide) (by rw [q8]; decide) (by decide) ?_
        exact lc_order (Rel := Rel) (u := u) (v := v) hl0 C0 hZ hK hj hi rfl rfl rfl (sim_order hR _ _ _) hP hD hS hl kk
      by_cases q9 : y = 9
      · refine lv_tableIn (tgt := 748) (off := 708) hx hb dL_law_40 (by rw [q9]; decide) (by rw [q9]; decide) (by rw [q9]; decide) (by decide) ?_
        exact lc_sign (Rel := Rel) (u := u) (v := v) hl0 C0 hZ hK hj hi rfl rfl (sim_sign hR _ _) hP hD hS hl kk
      by_cases q10 : y = 10
      · refine lv_tableIn (tgt := 816) (off := 776) hx hb dL_law_40 (by rw [q10]; decide) (by rw [q10]; decide) (by rw [q10]; decide) (by decide) ?_
        exact lc_isLawful (Rel := Rel) (u := u) (v := v) hl0 C0 hZ hK hj hi (sim_isLawful hR) hP hD hS hl kk
      by_cases q11 : y = 11
      · refine lv_tableIn (tgt := 829) (off := 789) hx hb dL_law_40 (by rw [q11]; decide) (by rw [q11]; decide) (by rw [q11]; decide) (by decide) ?_
        exact lc_look (Rel := Rel) (u := u) (v := v) hl0 C0 hZ hK hj hi rfl (sim_look hR _) hP hD hS hl kk
      by_cases q12 : y = 12
      · refine lv_tableIn (tgt := 892) (off := 852) hx hb dL_law_40 (by rw [q12]; decide) (by rw [q12]; decide) (by rw [q12]; decide) (by decide) ?_
        exact lc_openShoulder (Rel := Rel) (u := u) (v := v) hl0 C0 hZ hK hj hi rfl rfl (sim_openShoulder hR _ _) hP hD hS hl kk
      by_cases q13 : y = 13
      · refine lv_tableIn (tgt := 960) (off := 920) hx hb dL_law_40 (by rw [q13]; decide) (by rw [q13]; decide) (by rw [q13]; decide) (by decide) ?_
        exact lc_shutShoulder (Rel := Rel) (u := u) (v := v) hl0 C0 hZ hK hj hi (sim_shut hR) hP hD hS hl kk
      by_cases q14 : y = 14
      · refine lv_tableIn (tgt := 973) (off := 933) hx hb dL_law_40 (by rw [q14]; decide) (by rw [q14]; decide) (by rw [q14]; decide) (by decide) ?_
        exact lc_stop (Rel := Rel) (u := u) (v := v) hl0 C0 hZ hK hj hi rfl rfl (sim_stop hR _ _) hP hD hS hl kk
      by_cases q15 : y = 15
      · refine lv_tableIn (tgt := 1021) (off := 981) hx hb dL_law_40 (by rw [q15]; decide) (by rw [q15]; decide) (by rw [q15]; decide) (by decide) ?_
        exact lc_report (Rel := Rel) (u := u) (v := v) hl0 C0 hZ hK hj hi rfl rfl (sim_report hR _ _) hP hD hS hl kk
      by_cases q16 : y = 16
      · refine lv_tableIn (tgt := 1089) (off := 1049) hx hb dL_law_40 (by rw [q16]; decide) (by rw [q16]; decide) (by rw [q16]; decide) (by decide) ?_
        exact lc_confirm (Rel := Rel) (u := u) (v := v) hl0 C0 hZ hK hj hi rfl (sim_confirm hR _) hP hD hS hl kk
      by_cases q17 : y = 17
      · refine lv_tableIn (tgt := 1145) (off := 1105) hx hb dL_law_40 (by rw [q17]; decide) (by rw [q17]; decide) (by rw [q17]; decide) (by decide) ?_
        exact lc_incident (Rel := Rel) (u := u) (v := v) hl0 C0 hZ hK hj hi rfl rfl (sim_incident hR _ _) hP hD hS hl kk
      by_cases q18 : y = 18
      · refine lv_tableIn (tgt := 1213) (off := 1173) hx hb dL_law_40 (by rw [q18]; decide) (by rw [q18]; decide) (by rw [q18]; decide) (by decide) ?_
        exact lc_pattern (Rel := Rel) (u := u) (v := v) hl0 C0 hZ hK hj hi (sim_pattern hR) hP hD hS hl kk
      by_cases q19 : y = 19
      · refine lv_tableIn (tgt := 1226) (off := 1186) hx hb dL_law_40 (by rw [q19]; decide) (by rw [q19]; decide) (by rw [q19]; decide) (by decide) ?_
        exact lc_way (Rel := Rel) (u := u) (v := v) hl0 C0 hZ hK hj hi rfl rfl (sim_way hR _ _) hP hD hS hl kk
      by_cases q20 : y = 20
      · refine lv_tableIn (tgt := 1294) (off := 1254) hx hb dL_law_40 (by rw [q20]; decide) (by rw [q20]; decide) (by rw [q20]; decide) (by decide) ?_
        exact lc_send (Rel := Rel) (u := u) (v := v) hl0 C0 hZ hK hj hi rfl rfl (sim_send hR _ _) hP hD hS hl kk
      by_cases q21 : y = 21
      · refine lv_tableIn (tgt := 1362) (off := 1322) hx hb dL_law_40 (by rw [q21]; decide) (by rw [q21]; decide) (by rw [q21]; decide) (by decide) ?_
        exact lc_patrol (Rel := Rel) (u := u) (v := v) hl0 C0 hZ hK hj hi rfl rfl (sim_patrol hR _ _) hP hD hS hl kk
      by_cases q22 : y = 22
      · refine lv_tableIn (tgt := 1430) (off := 1390) hx hb dL_law_40 (by rw [q22]; decide) (by rw [q22]; decide) (by rw [q22]; decide) (by decide) ?_
        exact lc_works (Rel := Rel) (u := u) (v := v) hl0 C0 hZ hK hj hi rfl rfl rfl rfl rfl (sim_works hR _ _ _ _ _) hP hD hS hl kk
      by_cases q23 : y = 23
      · refine lv_tableIn (tgt := 1534) (off := 1494) hx hb dL_law_40 (by rw [q23]; decide) (by rw [q23]; decide) (by rw [q23]; decide) (by decide) ?_
        exact lc_isOn (Rel := Rel) (u := u) (v := v) hl0 C0 hZ hK hj hi rfl (sim_isOn hR _) hP hD hS hl kk
      by_cases q24 : y = 24
      · refine lv_tableIn (tgt := 1597) (off := 1557) hx hb dL_law_40 (by rw [q24]; decide) (by rw [q24]; decide) (by rw [q24]; decide) (by decide) ?_
        exact lc_proof (Rel := Rel) (u := u) (v := v) hl0 C0 hZ hK hj hi rfl rfl rfl (sim_proof hR _ _ _) hP hD hS hl kk
      by_cases q25 : y = 25
      · refine lv_tableIn (tgt := 1677) (off := 1637) hx hb dL_law_40 (by rw [q25]; decide) (by rw [q25]; decide) (by rw [q25]; decide) (by decide) ?_
        exact lc_isFined (Rel := Rel) (u := u) (v := v) hl0 C0 hZ hK hj hi rfl rfl rfl (sim_isFined hR _ _ _) hP hD hS hl kk
      have t0 := gx_sw0 (n := 0) rfl q0
      have t1 := gx_sw0 (n := 1) rfl q1
      have t2 := gx_sw0 (n := 2) rfl q2
      have t3 := gx_sw0 (n := 3) rfl q3
      have t4 := gx_sw0 (n := 4) rfl q4
      have t5 := gx_sw0 (n := 5) rfl q5
      have t6 := gx_sw0 (n := 6) rfl q6
      have t7 := gx_sw0 (n := 7) rfl q7
      have t8 := gx_sw0 (n := 8) rfl q8
      have t9 := gx_sw0 (n := 9) rfl q9
      have t10 := gx_sw0 (n := 10) rfl q10
      have t11 := gx_sw0 (n := 11) rfl q11
      have t12 := gx_sw0 (n := 12) rfl q12
      have t13 := gx_sw0 (n := 13) rfl q13
      have t14 := gx_sw0 (n := 14) rfl q14
      have t15 := gx_sw0 (n := 15) rfl q15
      have t16 := gx_sw0 (n := 16) rfl q16
      have t17 := gx_sw0 (n := 17) rfl q17
      have t18 := gx_sw0 (n := 18) rfl q18
      have t19 := gx_sw0 (n := 19) rfl q19
      have t20 := gx_sw0 (n := 20) rfl q20
      have t21 := gx_sw0 (n := 21) rfl q21
      have t22 := gx_sw0 (n := 22) rfl q22
      have t23 := gx_sw0 (n := 23) rfl q23
      have t24 := gx_sw0 (n := 24) rfl q24
      have t25 := gx_sw0 (n := 25) rfl q25
      refine lv_tableOut (tgt := 1764) hx hb dL_law_40 (by omega) (by decide) ?_
      refine W.widen (k := 60 + (j + 1)) (n := 5141 + 6 * (j + 1)) (by omega) (by omega) ?_
      exact kk u v f H locs ls hR hP hD hS hl
