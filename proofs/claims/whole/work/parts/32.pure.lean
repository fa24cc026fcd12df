theorem ge0 {p : Int32} (A : Int32) (hA : 0 ≤ A.toInt) (h : ¬ p < A) : ¬ p < 0 := fun q => h (by
  rw [Int32.lt_iff_toInt_lt] at q ⊢
  have z : (0 : Int32).toInt = 0 := by decide
  omega)
theorem es1 {a : String × Int32} {l : List (String × Int32)} : a ∈ a :: l := List.mem_cons_self
theorem es2 {a b : String × Int32} {l : List (String × Int32)} : a ∈ b :: a :: l := List.mem_cons_of_mem _ List.mem_cons_self
theorem es3 {a b c : String × Int32} {l : List (String × Int32)} : a ∈ c :: b :: a :: l := List.mem_cons_of_mem _ (List.mem_cons_of_mem _ List.mem_cons_self)
theorem ordc (r : Int32) : (r = -1 ∧ g_X10_isIn r (-1) 2 = some 1) ∨ (¬ r = -1 ∧ (∃ x : Nat, x ≤ 2 ∧ r = nI x) ∧ g_X9_isWithin r 0 2 = some 1 ∧ g_X10_isIn r (-1) 2 = some 1) ∨ (¬ r = -1 ∧ g_X9_isWithin r 0 2 = some 0 ∧ g_X10_isIn r (-1) 2 = some 0) := by
  have zm : (-1 : Int32).toInt = -1 := by decide
  have z0 : (0 : Int32).toInt = 0 := by decide
  have z2 : (2 : Int32).toInt = 2 := by decide
  by_cases hr : r = -1
  · refine Or.inl ⟨hr, ?_⟩
    rw [hr]
    exact ii1 (by decide) (by decide)
  · have hr2 : ¬ r.toInt = -1 := fun e => hr (Int32.toInt_inj.mp (e.trans zm.symm))
    rcases iwc r 0 2 with ⟨h1, h2, e1, e2⟩ | ⟨h, e1, e2⟩
    · refine Or.inr (Or.inl ⟨hr, ix_of 2 (n := 2) rfl (by decide) h1 h2, e1, ii1 ?_ h2⟩)
      rw [Int32.lt_iff_toInt_lt] at h1 ⊢
      omega
    · refine Or.inr (Or.inr ⟨hr, e1, ii0 (fun ⟨a, b⟩ => h ⟨?_, b⟩)⟩)
      rw [Int32.lt_iff_toInt_lt] at a ⊢
      omega
theorem cntc {w : Nat} {p : Int32} (hw : w < 2 ^ 31) (h : ¬ p < 0) (h2 : ¬ nI w - 1 < p) : ∃ k : Nat, k < w ∧ p = nI k := by
  cases w with
  | zero => exact absurd (show nI 0 - 1 < p from by
      rw [Int32.lt_iff_toInt_lt] at h ⊢
      have z : (nI 0 - 1 : Int32).toInt = -1 := by decide
      have z0 : (0 : Int32).toInt = 0 := by decide
      omega) h2
  | succ n =>
    rw [nI_pred] at h2
    obtain ⟨k, hk, e⟩ := ix_of (nI n) (n := n) rfl (by omega) h h2
    exact ⟨k, by omega, e⟩
theorem cntn {w k : Nat} (hw : w < 2 ^ 31) (hk : k < w) : ¬ nI w - 1 < nI k := by
  cases w with
  | zero => omega
  | succ n =>
    rw [nI_pred, nI_ltI (by omega) (by omega)]
    omega
section RELS2
variable {u : GS} {v : MS}
theorem sim_limit (h : Rel u v) (p q : Int32) : SI Rel (g_X9_limit u p q) (g_X10_limit v p q) [("java/lang/IndexOutOfBoundsException", 1), ("java/lang/IllegalArgumentException", 2)] := by
  obtain ⟨hM, hT, hD, hS, hO, hH, hI, hP, hB, hK⟩ := id h
  rcases secc u p with ⟨e1, e2⟩ | ⟨s, hs, rfl, e1, e2⟩
  · refine SI_no "java/lang/IndexOutOfBoundsException" 1 0 (v' := m_thrown_set v 1) es1 (by simp only [g_X9_limit, e1, pz_xr, id]) ?_ rfl h
    by_cases hq : q = -1
    · have hq' := eq_true hq
      simp only [g_X10_limit, e2, hq', pz_bind, pz_let, z00, if_true, pz_h1]
    · have hq' := eq_false hq
      rcases iwc q 40 120 with ⟨-, -, -, f2⟩ | ⟨-, -, f2⟩
      · by_cases hr : (q - q / (20 : Int32) * (20 : Int32)) = 0
        · have hr' := eq_true hr
          simp only [g_X10_limit, e2, hq', hr', f2, pz_bind, pz_let, z00, z10, if_true, if_false, pz_h1]
        · have hr' := eq_false hr
          simp only [g_X10_limit, e2, hq', hr', f2, pz_bind, pz_let, z00, z10, if_true, if_false, pz_h1]
      · simp only [g_X10_limit, e2, hq', f2, pz_bind, pz_let, z00, z10, if_true, if_false, pz_h1]
  · have a1 : ∀ {α : Type} (a : Option α), g_in (nI s) 12 a = a := fun a => pz_inN hs (by decide) a
    have inv : (q = -1 ∨ ∃ x : Nat, x ≤ 120 ∧ q = nI x) → Rel (cS_limits_set u (upd (cS_limits u) (nI s).toNatClampNeg q)) (mS_limited_set (m_thrown_set v 0) (upd (mS_limited v) (nI s).toNatClampNeg q)) := fun hx => ⟨hM, hT, hD, ⟨congrArg (fun t : cS_t => (upd t.1 (nI s).toNatClampNeg q, t.2)) hS.1, hS.2.1, updR (cS_limits u) 12 (fun z => z = -1 ∨ ∃ x : Nat, x ≤ 120 ∧ z = nI x) hS.2.2.1 _ _ hx, hS.2.2.2⟩, hO, hH, hI, hP, hB, hK⟩
    by_cases hq : q = -1
    · have hq' := eq_true hq
      refine SI_ok (mS_limited v (nI s).toNatClampNeg) ?_ ?_ rfl (inv (Or.inl hq))
      · rw [hS.limits]
        simp only [g_X9_limit, e1, hq', pz_xl, pz_bind, pz_let, pz_na1, a1, if_true]
      · simp only [g_X10_limit, e2, hq', pz_bind, pz_let, a1, z10, if_true, if_false, pz_h0] <;> rfl
    · have hq' := eq_false hq
      rcases iwc q 40 120 with ⟨h1, h2, f1, f2⟩ | ⟨-, f1, f2⟩
      · by_cases hr : (q - q / (20 : Int32) * (20 : Int32)) = 0
        · have hr' := eq_true hr
          refine SI_ok (mS_limited v (nI s).toNatClampNeg) ?_ ?_ rfl (inv (Or.inr (ix_of 120 (n := 120) rfl (by decide) (ge0 40 (by decide) h1) h2)))
          · rw [hS.limits]
            simp only [g_X9_limit, g_X9_isSpeedSign, e1, f1, hq', hr', pz_xl, pz_bind, pz_let, pz_na1, a1, z10, if_true, if_false]
          · simp only [g_X10_limit, e2, f2, hq', hr', pz_bind, pz_let, a1, z10, if_true, if_false, pz_h0] <;> rfl
        · have hr' := eq_false hr
          refine SI_no "java/lang/IllegalArgumentException" 2 0 (u' := u) (v' := m_thrown_set v 2) es2 ?_ ?_ rfl h
          · simp only [g_X9_limit, g_X9_isSpeedSign, e1, f1, hq', hr', pz_xl, pz_xr, id, pz_bind, pz_let, pz_na, a1, z10, z00, if_true, if_false]
          · simp only [g_X10_limit, e2, f2, hq', hr', pz_bind, pz_let, a1, z10, z00, if_true, if_false, pz_h2]
      · refine SI_no "java/lang/IllegalArgumentException" 2 0 (u' := u) (v' := m_thrown_set v 2) es2 ?_ ?_ rfl h
        · simp only [g_X9_limit, g_X9_isSpeedSign, e1, f1, hq', pz_xl, pz_xr, id, pz_bind, pz_let, pz_na, a1, z10, z00, if_true, if_false]
        · simp only [g_X10_limit, e2, f2, hq', pz_bind, pz_let, a1, z10, z00, if_true, if_false, pz_h2]
theorem sim_order (h : Rel u v) (p q r : Int32) : SI Rel (g_X9_order u p q r) (g_X10_order v p q r) [("java/lang/IndexOutOfBoundsException", 1), ("java/lang/IllegalArgumentException", 2), ("java/lang/IllegalStateException", 3)] := by
  obtain ⟨hM, hT, hD, hS, hO, hH, hI, hP, hB, hK⟩ := id h
  rcases plcc u p q with ⟨e1, e2⟩ | ⟨s, l, hs, hl, rfl, rfl, e1, e2⟩
  · exact SI_no "java/lang/IndexOutOfBoundsException" 1 0 (v' := m_thrown_set v 1) es1 (by simp only [g_X9_order, e1, pz_xr, id]) (by simp only [g_X10_order, e2, pz_bind, pz_let, z00, if_true, pz_h1]) rfl h
  · have hk : 4 * s + l < 48 := by omega
    have a1 : ∀ {α : Type} (a : Option α), g_in (nI (4 * s + l)) 48 a = a := fun a => pz_inN hk (by decide) a
    have inv : (r = -1 ∨ ∃ x : Nat, x ≤ 2 ∧ r = nI x) → Rel (cL_orders_set u (upd (cL_orders u) (nI (4 * s + l)).toNatClampNeg r)) (mL_ordered_set (m_thrown_set v 0) (upd (mL_ordered v) (nI (4 * s + l)).toNatClampNeg r)) := fun hx => ⟨hM, hT, hD, hS, ⟨congrArg (fun t : Nat → Int32 => upd t (nI (4 * s + l)).toNatClampNeg r) hO.1, updR (cL_orders u) 48 (fun z => z = -1 ∨ ∃ x : Nat, x ≤ 2 ∧ z = nI x) hO.2 _ _ hx⟩, hH, hI, hP, hB, hK⟩
    have hO1 : mL_ordered v = cL_orders u := hO.1.symm
    rcases ordc r with ⟨hr, f2⟩ | ⟨hr, hx, f1, f2⟩ | ⟨hr, f1, f2⟩
    · have hr' := eq_true hr
      have hr2 := eq_false (show ¬ r = 2 from by rw [hr]; decide)
      refine SI_ok (mL_ordered v (nI (4 * s + l)).toNatClampNeg) ?_ ?_ rfl (inv (Or.inl hr))
      · rw [hO1]
        simp only [g_X9_order, e1, hr', hr2, pz_xl, pz_bind, pz_let, pz_na1, pz_ns1, placeN, a1, if_true, if_false]
      · simp only [g_X10_order, e2, f2, hr2, pz_bind, pz_let, mpl, a1, z10, if_true, if_false, pz_h0] <;> rfl
    · have hr' := eq_false hr
      by_cases hr2 : r = 2
      · have hr2' := eq_true hr2
        by_cases hs0 : nI s = 0
        · have hs' := eq_true hs0
          refine SI_no "java/lang/IllegalStateException" 3 0 (u' := u) (v' := m_thrown_set v 3) es3 ?_ ?_ rfl h
          · simp only [g_X9_order, e1, f1, hr', hr2', hs', pz_xl, pz_xr, id, pz_bind, pz_let, pz_na1, pz_ns, placeN, a1, z10, z00, if_true, if_false]
          · simp only [g_X10_order, e2, f2, hr2', hs', pz_bind, pz_let, mpl, a1, z10, z30, if_true, if_false, pz_h3]
        · have hs' := eq_false hs0
          refine SI_ok (mL_ordered v (nI (4 * s + l)).toNatClampNeg) ?_ ?_ rfl (inv (Or.inr hx))
          · rw [hO1]
            simp only [g_X9_order, e1, f1, hr', hr2', hs', pz_xl, pz_bind, pz_let, pz_na1, pz_ns1, placeN, a1, z10, if_true, if_false]
          · simp only [g_X10_order, e2, f2, hr2', hs', pz_bind, pz_let, mpl, a1, z10, if_true, if_false, pz_h0] <;> rfl
      · have hr2' := eq_false hr2
        refine SI_ok (mL_ordered v (nI (4 * s + l)).toNatClampNeg) ?_ ?_ rfl (inv (Or.inr hx))
        · rw [hO1]
          simp only [g_X9_order, e1, f1, hr', hr2', pz_xl, pz_bind, pz_let, pz_na1, pz_ns1, placeN, a1, z10, if_true, if_false]
        · simp only [g_X10_order, e2, f2, hr2', pz_bind, pz_let, mpl, a1, z10, if_true, if_false, pz_h0] <;> rfl
    · have hr' := eq_false hr
      refine SI_no "java/lang/IllegalArgumentException" 2 0 (u' := u) (v' := m_thrown_set v 2) es2 ?_ ?_ rfl h
      · simp only [g_X9_order, e1, f1, hr', pz_xl, pz_xr, id, pz_bind, pz_let, pz_na, z10, z00, if_true, if_false]
      · simp only [g_X10_order, e2, f2, pz_bind, pz_let, z10, z00, z20, if_true, if_false, pz_h2]
theorem sim_patrol (h : Rel u v) (p q : Int32) : SI Rel (g_X9_patrol u p q) (g_X10_patrol v p q) [("java/lang/IndexOutOfBoundsException", 1), ("java/lang/IllegalArgumentException", 2)] := by
  obtain ⟨hM, hT, hD, hS, hO, hH, hI, hP, hB, hK⟩ := id h
  rcases patc u p with ⟨e1, e2⟩ | ⟨s, hs, rfl, e1, e2⟩
  · exact SI_no "java/lang/IndexOutOfBoundsException" 1 0 (v' := m_thrown_set v 1) es1 (by simp only [g_X9_patrol, e1, pz_xr, id]) (by simp only [g_X10_patrol, e2, pz_bind, pz_let, z00, if_true, pz_h1]) rfl h
  · have a1 : ∀ {α : Type} (a : Option α), g_in (nI s) 3 a = a := fun a => pz_inN hs (by decide) a
    rcases iwc q 0 2 with ⟨-, -, f1, f2⟩ | ⟨-, f1, f2⟩
    · by_cases q0 : q = 0
      · have q0' := eq_true q0
        refine SI_ok (u' := u) (v' := m_thrown_set v 0) (mP_at v (nI s).toNatClampNeg) ?_ ?_ rfl h
        · rw [hP.at']
          simp only [g_X9_patrol, e1, f1, q0', pz_xl, pz_bind, pz_na1, a1, if_true]
        · simp only [g_X10_patrol, e2, f2, q0', pz_bind, pz_let, a1, z10, if_true, if_false, pz_h0] <;> rfl
      · have q0' := eq_false q0
        by_cases q1 : q = 1
        · have q1' := eq_true q1
          refine SI_ok (u' := u) (v' := m_thrown_set v 0) (mP_sentTo v (nI s).toNatClampNeg) ?_ ?_ rfl h
          · rw [hP.sent]
            simp only [g_X9_patrol, e1, f1, q0', q1', pz_xl, pz_bind, pz_na1, a1, if_true, if_false]
          · simp only [g_X10_patrol, e2, f2, q0', q1', pz_bind, pz_let, a1, z10, if_true, if_false, pz_h0] <;> rfl
        · have q1' := eq_false q1
          refine SI_ok (u' := u) (v' := m_thrown_set v 0) (cP_minutesLeft u (nI s).toNatClampNeg) ?_ ?_ rfl h
          · simp only [g_X9_patrol, e1, f1, q0', q1', pz_xl, pz_bind, pz_na1, a1, if_true, if_false]
          · have hP2 : mP_sentTo (m_thrown_set v 0) = cP_incidents u := hP.sent
            have hP3 : mP_left (m_thrown_set v 0) = cP_minutesLeft u := hP.left
            simp only [g_X10_patrol, e2, f2, q0', q1', pz_bind, pz_let, a1, z10, if_true, if_false, pz_h0, hP2, hP3, cl_I (show s < 2 ^ 31 by omega)]
            rcases hP.2.2 s hs with ⟨c1, c2⟩ | ⟨c1, -⟩
            · rw [if_pos c1, c2]
            · rw [if_neg c1]
    · exact SI_no "java/lang/IllegalArgumentException" 2 0 (v' := m_thrown_set v 2) es2 (by simp only [g_X9_patrol, e1, f1, pz_xl, pz_xr, id, pz_bind, pz_na]) (by simp only [g_X10_patrol, e2, f2, pz_bind, pz_let, z00, z10, z20, if_true, if_false, pz_h2]) rfl h
/-- whether the works k go on now, in both -/
theorem run_eq (hM : RM u v) (hB : RB u v) {k w : Nat} (hw : cB_count u = nI w) (hw8 : w ≤ 8) (hk : k < w) : ∃ r : Int32, (r = 0 ∨ r = 1) ∧ g_X0_isRunning u (nI k) (c_minute u) = some r ∧ g_X10_isOnNow v (nI k) = some r ∧ (r = 1 ↔ (cB_begins u k ≤ c_minute u ∧ c_minute u < cB_ends u k)) := by
  obtain ⟨w', hw', e1, e2, hall⟩ := hB
  have : w = w' := by
    rw [e1] at hw
    exact ((nI_eq (by omega) (by omega)).mp hw).symm
  subst this
  obtain ⟨a, b, c, d, e, -, -, -, -, -, -, -, ⟨-, -, -, f4, f5⟩, ⟨-, -, -, g4, g5⟩⟩ := hall k hk
  have a1 : ∀ {α : Type} (a : Option α), g_in (nI k) 8 a = a := fun a => pz_inN (by omega) (by decide) a
  have i1 : g_X9_isWithin (nI k) 0 7 = some 1 := isw (k := k) (a := 0) (b := 7) _ rfl (Nat.zero_le k) (by omega) (by decide) _ _
  by_cases h1 : c_minute u < cB_begins u k
  · refine ⟨0, Or.inl rfl, ?_, ?_, ⟨fun z => absurd z (by decide), fun z => absurd h1 (Int32.not_lt.mpr z.1)⟩⟩
    · simp only [g_X0_isRunning, i1, pz_bind, z10, if_false, a1, cl_I (show k < 2 ^ 31 by omega), eq_true h1, if_true]
    · rw [hM.1, f4, ← g4] at h1
      simp only [g_X10_isOnNow, a1, cl_I (show k < 2 ^ 31 by omega), eq_true h1, if_true]
  · by_cases h2 : cB_ends u k ≤ c_minute u
    · refine ⟨0, Or.inl rfl, ?_, ?_, ⟨fun z => absurd z (by decide), fun z => absurd h2 (Int32.not_le.mpr z.2)⟩⟩
      · simp only [g_X0_isRunning, i1, pz_bind, z10, if_false, a1, cl_I (show k < 2 ^ 31 by omega), eq_false h1, eq_true h2, if_true]
      · rw [hM.1, f4, ← g4] at h1
        rw [hM.1, f5, ← g5] at h2
        simp only [g_X10_isOnNow, a1, cl_I (show k < 2 ^ 31 by omega), eq_false h1, eq_true h2, if_true, if_false]
    · refine ⟨1, Or.inr rfl, ?_, ?_, ⟨fun _ => ⟨Int32.not_lt.mp h1, Int32.not_le.mp h2⟩, fun _ => rfl⟩⟩
      · simp only [g_X0_isRunning, i1, pz_bind, z10, if_false, a1, cl_I (show k < 2 ^ 31 by omega), eq_false h1, eq_false h2]
      · rw [hM.1, f4, ← g4] at h1
        rw [hM.1, f5, ← g5] at h2
        simp only [g_X10_isOnNow, a1, cl_I (show k < 2 ^ 31 by omega), eq_false h1, eq_false h2, if_false]
theorem sim_isOn (h : Rel u v) (p : Int32) : SI Rel (g_X9_isOn u p) (g_X10_isOn v p) [("java/lang/IndexOutOfBoundsException", 1)] := by
  obtain ⟨hM, hT, hD, hS, hO, hH, hI, hP, hB, hK⟩ := id h
  obtain ⟨w, hw, ew, ew2, hall⟩ := id hB
  rcases iwc p 0 (nI w - 1) with ⟨h1, h2, f1, f2⟩ | ⟨-, f1, f2⟩
  · obtain ⟨k, hk, rfl⟩ := cntc (by omega) h1 h2
    obtain ⟨r, hr, r1, r2, -⟩ := run_eq hM hB ew hw hk
    have r2' : g_X10_isOnNow (m_thrown_set v 0) (nI k) = some r := r2
    refine SI_ok (u' := u) (v' := m_thrown_set v 0) r ?_ ?_ rfl h
    · rcases hr with rfl | rfl
      · simp only [g_X9_isOn, ew, f1, pz_bind, pz_ni1, pz_xl, r1, pz_bo0]
      · simp only [g_X9_isOn, ew, f1, pz_bind, pz_ni1, pz_xl, r1, pz_bo1]
    · rcases hr with rfl | rfl
      · simp only [g_X10_isOn, ew2, f2, pz_bind, pz_let, pz_h0, z10, z00, if_false, if_true, r2']
      · simp only [g_X10_isOn, ew2, f2, pz_bind, pz_let, pz_h0, z10, if_false, r2']
  · exact SI_no "java/lang/IndexOutOfBoundsException" 1 0 (v' := m_thrown_set v 1) es1 (by simp only [g_X9_isOn, ew, f1, pz_bind, pz_ni, pz_xr, id]) (by simp only [g_X10_isOn, ew2, f2, pz_bind, pz_let, z00, if_true, pz_h1]) rfl h
/-- an incident's number: refused by both, or a natural below the count -/
theorem incc {n : Nat} (hn : n ≤ 12) (e1 : cI_count u = nI n) (e2 : mI_incidents v = nI n) (p : Int32) : (g_X2_has u p = some 0 ∧ g_X10_isIncident v p = some 0) ∨ (∃ k : Nat, k < n ∧ p = nI k ∧ g_X2_has u p = some 1 ∧ g_X10_isIncident v p = some 1) := by
  rcases iwc p 0 (nI n - 1) with ⟨h1, h2, -, f2⟩ | ⟨h, -, f2⟩
  · obtain ⟨k, hk, rfl⟩ := cntc (by omega) h1 h2
    refine Or.inr ⟨k, hk, rfl, ?_, ?_⟩
    · have i1 : g_X9_isWithin (nI k) 0 11 = some 1 := isw (k := k) (a := 0) (b := 11) _ rfl (Nat.zero_le k) (by omega) (by decide) _ _
      simp only [g_X2_has, i1, pz_bind, z10, if_false, e1, eq_false (nI_ge hk (by omega))]
    · simp only [g_X10_isIncident, e2, f2, pz_bind, pz_bo1]
  · refine Or.inl ⟨?_, ?_⟩
    · rcases iwc p 0 11 with ⟨h1, h2, i1, -⟩ | ⟨-, i1, -⟩
      · obtain ⟨k, hk, rfl⟩ := ix_of 11 (n := 11) rfl (by decide) h1 h2
        have hk2 : n ≤ k := Classical.byContradiction fun c => h ⟨h1, cntn (by omega) (by omega)⟩
        simp only [g_X2_has, i1, pz_bind, z10, if_false, e1, eq_true (nI_le hk2 (by omega)), if_true]
      · simp only [g_X2_has, i1, pz_bind, if_true]
    · simp only [g_X10_isIncident, e2, f2, pz_bind, pz_bo0]
end RELS2
