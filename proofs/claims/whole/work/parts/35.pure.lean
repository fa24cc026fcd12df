section RELS5
variable {u : GS} {v : MS}
theorem placeN0 (s : Nat) : g_X9_placeOf (nI s) 0 = some (nI (4 * s)) := placeN s 0
theorem mpl0 (s : Nat) : (4 : Int32) * nI s = nI (4 * s) := pk_mul 4 s
theorem stopd {q : Nat} (hq : q < 48) : g_X8_isStoppedAt u (nI q) = some (if cT_stopped u q = 0 then 0 else 1) := by
  have i1 : g_X9_isWithin (nI q) 0 47 = some 1 := isw (k := q) (a := 0) (b := 47) _ rfl (Nat.zero_le q) (by omega) (by decide) _ _
  simp only [g_X8_isStoppedAt, i1, pz_bind, z10, if_false, pz_inN hq (by decide), cl_I (show q < 2 ^ 31 by omega)]
  by_cases c : cT_stopped u q = 0
  · rw [if_pos c, if_pos c]
  · rw [if_neg c, if_neg c]
theorem heldN {q : Nat} (hq : q < 48) : g_X8_heldAt u (nI q) = some (cT_held u q) := by
  have i1 : g_X9_isWithin (nI q) 0 47 = some 1 := isw (k := q) (a := 0) (b := 47) _ rfl (Nat.zero_le q) (by omega) (by decide) _ _
  simp only [g_X8_heldAt, i1, pz_bind, z10, if_false, pz_inN hq (by decide), cl_I (show q < 2 ^ 31 by omega)]
theorem sim_look (h : Rel u v) (p : Int32) : SI Rel (g_X9_look u p) (g_X10_look v p) [("java/lang/IndexOutOfBoundsException", 1)] := by
  obtain ⟨hM, hT, hD, hS, hO, hH, hI, hP, hB, hK⟩ := id h
  rcases secc u p with ⟨e1, e2⟩ | ⟨s, hs, rfl, e1, e2⟩
  · exact SI_no "java/lang/IndexOutOfBoundsException" 1 0 (v' := m_thrown_set v 1) es1 (by simp only [g_X9_look, e1, pz_xr, id]) (by simp only [g_X10_look, e2, pz_bind, pz_let, z00, if_true, pz_h1]) rfl h
  · have a1 : ∀ {α : Type} (a : Option α), g_in (nI s) 12 a = a := fun a => pz_inN hs (by decide) a
    have a2 : ∀ {α : Type} (a : Option α), g_in (nI (4 * s)) 48 a = a := fun a => pz_inN (by omega) (by decide) a
    have c1 := cl_I (show s < 2 ^ 31 by omega)
    have c2 := cl_I (show 4 * s < 2 ^ 31 by omega)
    have t1 : mT_isStopped (mH_looked_set (m_thrown_set v 0) (upd (mH_looked v) s (m_now v))) = cT_stopped u := hT.stopped
    have t2 : mT_holding (mH_looked_set (m_thrown_set v 0) (upd (mH_looked v) s (m_now v))) = cT_held u := hT.held
    by_cases b1 : cT_stopped u (4 * s) = 0 ∧ cT_held u (4 * s) = 0
    · refine SI_ok (u' := cH_foundClearAt_set u (upd (cH_foundClearAt u) s (c_minute u))) (v' := mH_wasClear_set (mH_looked_set (m_thrown_set v 0) (upd (mH_looked v) s (m_now v))) (upd (mH_wasClear v) s 1)) 1 ?_ ?_ rfl ⟨hM, hT, hD, hS, hO, ⟨hH.1, ?_, hH.2.2⟩, hI, hP, hB, hK⟩
      · have cl : g_X8_isClear u (nI (4 * s)) = some 1 := by
          simp only [g_X8_isClear, stopd (show 4 * s < 48 by omega), heldN (show 4 * s < 48 by omega), pz_bind, b1.1, b1.2, if_true]
        simp only [g_X9_look, e1, pz_xl, placeN0, cl, pz_bind, pz_let, z10, if_false, a1, c1, pz_bo1]
      · have w1 : mH_wasClear (mH_wasClear_set (mH_looked_set (m_thrown_set v 0) (upd (mH_looked v) s (m_now v))) (upd (mH_wasClear v) s 1)) s = 1 := pk_us
        have z1 : mH_looked (m_thrown_set v 0) = mH_looked v := rfl
        have z2 : m_now (m_thrown_set v 0) = m_now v := rfl
        have z3 : ∀ f, mH_wasClear (mH_looked_set (m_thrown_set v 0) f) = mH_wasClear v := fun _ => rfl
        simp only [g_X10_look, e2, pz_bind, pz_let, z10, if_false, pz_h0, a1, a2, c1, c2, mpl0, z1, z2, z3, t1, t2, b1.1, b1.2, if_true, vnb1, w1, pz_bo1]
      · intro k hk
        show upd (cH_foundClearAt u) s (c_minute u) k = if upd (mH_wasClear v) s 1 k = 0 then -1000 else upd (mH_looked v) s (m_now v) k
        by_cases e : k = s
        · rw [e, pk_us, pk_us, pk_us, if_neg (by decide), hM.1]
        · rw [pk_un e, pk_un e, pk_un e]
          exact hH.2.1 k hk
    · refine SI_ok (u' := cH_foundClearAt_set u (upd (cH_foundClearAt u) s (-1000))) (v' := mH_wasClear_set (mH_looked_set (m_thrown_set v 0) (upd (mH_looked v) s (m_now v))) (upd (mH_wasClear v) s 0)) 0 ?_ ?_ rfl ⟨hM, hT, hD, hS, hO, ⟨hH.1, ?_, hH.2.2⟩, hI, hP, hB, hK⟩
      · have cl : g_X8_isClear u (nI (4 * s)) = some 0 := by
          by_cases d1 : cT_stopped u (4 * s) = 0
          · have d2 : ¬ cT_held u (4 * s) = 0 := fun z => b1 ⟨d1, z⟩
            simp only [g_X8_isClear, stopd (show 4 * s < 48 by omega), heldN (show 4 * s < 48 by omega), pz_bind, d1, if_true, eq_false d2, if_false]
          · simp only [g_X8_isClear, stopd (show 4 * s < 48 by omega), pz_bind, eq_false d1, if_false, z10]
        simp only [g_X9_look, e1, pz_xl, placeN0, cl, pz_bind, pz_let, z00, if_true, a1, c1, pz_bo0]
      · have w1 : mH_wasClear (mH_wasClear_set (mH_looked_set (m_thrown_set v 0) (upd (mH_looked v) s (m_now v))) (upd (mH_wasClear v) s 0)) s = 0 := pk_us
        have z1 : mH_looked (m_thrown_set v 0) = mH_looked v := rfl
        have z2 : m_now (m_thrown_set v 0) = m_now v := rfl
        have z3 : ∀ f, mH_wasClear (mH_looked_set (m_thrown_set v 0) f) = mH_wasClear v := fun _ => rfl
        by_cases d1 : cT_stopped u (4 * s) = 0
        · have d2 : ¬ cT_held u (4 * s) = 0 := fun z => b1 ⟨d1, z⟩
          simp only [g_X10_look, e2, pz_bind, pz_let, z10, if_false, pz_h0, a1, a2, c1, c2, mpl0, z1, z2, z3, t1, t2, d1, eq_false d2, if_true, vnb0, w1, pz_bo0]
        · simp only [g_X10_look, e2, pz_bind, pz_let, z10, if_false, pz_h0, a1, a2, c1, c2, mpl0, z1, z2, z3, t1, t2, eq_false d1, if_true, vnb0, w1, pz_bo0]
      · intro k hk
        show upd (cH_foundClearAt u) s (-1000) k = if upd (mH_wasClear v) s 0 k = 0 then -1000 else upd (mH_looked v) s (m_now v) k
        by_cases e : k = s
        · rw [e, pk_us, pk_us, if_pos rfl]
        · rw [pk_un e, pk_un e, pk_un e]
          exact hH.2.1 k hk
theorem sim_confirm (h : Rel u v) (p : Int32) : SI Rel (g_X9_confirm u p) (g_X10_confirm v p) [("java/lang/IndexOutOfBoundsException", 1), ("java/lang/IllegalStateException", 2)] := by
  obtain ⟨hM, hT, hD, hS, hO, hH, hI, hP, hB, hK⟩ := id h
  obtain ⟨n, hn, n1, n2, pl, hw, hpl, ha, hb⟩ := id hI
  rcases incc hn n1 n2 p with ⟨e1, e2⟩ | ⟨k, hk, rfl, e1, e2⟩
  · exact SI_no "java/lang/IndexOutOfBoundsException" 1 0 (v' := m_thrown_set v 1) es1 (by simp only [g_X9_confirm, e1, pz_bind, pz_ni, pz_xr, id]) (by simp only [g_X10_confirm, e2, pz_bind, pz_let, z00, if_true, pz_h1]) rfl h
  · have a1 : ∀ {α : Type} (a : Option α), g_in (nI k) 12 a = a := fun a => pz_inN (by omega) (by decide) a
    have c1 := cl_I (show k < 2 ^ 31 by omega)
    obtain ⟨q, hq, eq1⟩ := hpl k hk
    have m1 : mI_state v = cI_how u := hw.symm
    have m2 : mI_placed (m_thrown_set v 0) = cI_places u := pl.symm
    have m3 : mI_state (m_thrown_set v 0) = cI_how u := hw.symm
    have m4 : mT_isStopped (m_thrown_set v 0) = cT_stopped u := hT.stopped
    by_cases w0 : cI_how u k = 0
    · have go : ∀ z : Int32, Rel (cI_how_set u (upd (cI_how u) k z)) (mI_state_set (m_thrown_set v 0) (upd (cI_how u) k z)) := fun z => ⟨hM, hT, hD, hS, hO, hH, ⟨n, hn, n1, n2, pl, rfl, hpl, ha, hb⟩, hP, hB, hK⟩
      have hz : ∀ z, cI_how (cI_how_set u (upd (cI_how u) k z)) k = z := fun z => pk_us
      have hz2 : ∀ z, mI_state (mI_state_set (m_thrown_set v 0) (upd (cI_how u) k z)) k = z := fun z => pk_us
      by_cases s0 : cT_stopped u q = 0
      · refine SI_ok 2 ?_ ?_ rfl (go 2)
        · simp only [g_X9_confirm, e1, pz_bind, pz_ni1, pz_xl, a1, c1, pz_let, w0, if_true, pz_ns1, eq1, stopd hq, s0, hz]
        · simp only [g_X10_confirm, e2, pz_bind, z10, z00, if_false, a1, c1, m1, m2, m3, m4, w0, if_true, pz_let, pz_h0, eq1, pz_inN hq (show 48 < 2 ^ 31 by decide), cl_I (show q < 2 ^ 31 by omega), s0, hz2]
      · refine SI_ok 1 ?_ ?_ rfl (go 1)
        · simp only [g_X9_confirm, e1, pz_bind, pz_ni1, pz_xl, a1, c1, pz_let, w0, if_true, pz_ns1, eq1, stopd hq, eq_false s0, if_false, z10, hz]
        · simp only [g_X10_confirm, e2, pz_bind, z10, z00, if_false, a1, c1, m1, m2, m3, m4, w0, if_true, pz_let, pz_h0, eq1, pz_inN hq (show 48 < 2 ^ 31 by decide), cl_I (show q < 2 ^ 31 by omega), eq_false s0, hz2]
    · refine SI_no "java/lang/IllegalStateException" 2 0 (u' := u) (v' := m_thrown_set v 2) es2 ?_ ?_ rfl h
      · simp only [g_X9_confirm, e1, pz_bind, pz_ni1, pz_xl, a1, c1, pz_let, eq_false w0, if_false, pz_ns, pz_xr, id]
      · simp only [g_X10_confirm, e2, pz_bind, z10, z20, z00, if_false, if_true, a1, c1, m1, eq_false w0, pz_let, pz_h2]
/-- the patrol that is sent to an incident -/
theorem patOf {n : Nat} (hn : n ≤ 12) (ha : ∀ j : Nat, j < 3 → mP_sentTo v j = -1 ∨ ∃ k : Nat, k < n ∧ mP_sentTo v j = nI k ∧ cI_patrols u k = nI j) (hb : ∀ k : Nat, k < n → cI_patrols u k = -1 ∨ ∃ j : Nat, j < 3 ∧ cI_patrols u k = nI j ∧ mP_sentTo v j = nI k) {k : Nat} (hk : k < n) : g_X10_patrolOf v (nI k) = some (cI_patrols u k) := by
  obtain ⟨m, z, ⟨x, hx, rfl⟩, h1⟩ := lpF (fun m (z : Int32 × Int32) => lp_X10_patrolOf_4 v (nI k) (fun x => some x) m z.1 z.2) 3 (by decide) (fun i z => ∃ x : Int32, ((x = -1 ∧ ∀ j : Nat, j < i → ¬ mP_sentTo v j = nI k) ∨ (∃ j : Nat, j < i ∧ x = nI j ∧ mP_sentTo v j = nI k)) ∧ z = (x, nI i)) (by
    rintro m i z hi ⟨x, hx, rfl⟩
    by_cases c : mP_sentTo v i = nI k
    · refine ⟨(nI i, nI (i + 1)), ⟨nI i, Or.inr ⟨i, by omega, rfl, c⟩, rfl⟩, ?_⟩
      show lp_X10_patrolOf_4 v _ _ (m + 1) x (nI i) = lp_X10_patrolOf_4 v _ _ m _ _
      simp only [lp_X10_patrolOf_4, c_ge 3 3 hi (by decide), if_false, pz_inN hi (show 3 < 2 ^ 31 by decide), pz_let, cl_I (show i < 2 ^ 31 by omega), eq_true c, if_true, nI_1]
    · refine ⟨(x, nI (i + 1)), ⟨x, ?_, rfl⟩, ?_⟩
      · rcases hx with ⟨rfl, q⟩ | ⟨j, hj, rfl, q⟩
        · refine Or.inl ⟨rfl, fun j hj => ?_⟩
          by_cases e : j = i
          · rw [e]
            exact c
          · exact q j (by omega)
        · exact Or.inr ⟨j, by omega, rfl, q⟩
      · show lp_X10_patrolOf_4 v _ _ (m + 1) x (nI i) = lp_X10_patrolOf_4 v _ _ m _ _
        simp only [lp_X10_patrolOf_4, c_ge 3 3 hi (by decide), if_false, pz_inN hi (show 3 < 2 ^ 31 by decide), pz_let, cl_I (show i < 2 ^ 31 by omega), eq_false c, nI_1]) (-1, 0) ⟨-1, Or.inl ⟨rfl, fun j hj => absurd hj (Nat.not_lt_zero j)⟩, rfl⟩
  refine h1.trans ?_
  have h2 : lp_X10_patrolOf_4 v (nI k) (fun x => some x) (m + 1) x (nI 3) = some x := by
    simp only [lp_X10_patrolOf_4, c_le 3 3 (by decide), if_true]
  refine h2.trans (congrArg some ?_)
  rcases hx with ⟨rfl, q⟩ | ⟨j, hj, rfl, q⟩
  · rcases hb k hk with e | ⟨j, hj, -, e⟩
    · exact e.symm
    · exact absurd e (q j hj)
  · rcases ha j hj with e | ⟨k', hk', e, e2⟩
    · rw [e] at q
      exact absurd q.symm (nm1 k (by omega))
    · rw [e] at q
      rw [(nI_eq (by omega) (by omega)).mp q] at e2
      exact e2.symm
theorem secOf {n : Nat} (hn : n ≤ 12) (n1 : cI_count u = nI n) {k q : Nat} (hk : k < n) (hq : q < 48) (e : cI_places u k = nI q) : g_X2_sectionOf u (nI k) = some (nI (q / 4)) := by
  have i1 : g_X9_isWithin (nI k) 0 11 = some 1 := isw (k := k) (a := 0) (b := 11) _ rfl (Nat.zero_le k) (by omega) (by decide) _ _
  have h1 : g_X2_has u (nI k) = some 1 := by
    simp only [g_X2_has, i1, pz_bind, z10, if_false, n1, eq_false (nI_ge hk (by omega))]
  simp only [g_X2_sectionOf, h1, pz_bind, z10, if_false, pz_inN (show k < 12 by omega) (show 12 < 2 ^ 31 by decide), cl_I (show k < 2 ^ 31 by omega), e]
  exact congrArg some (pk_div (d := 4) (by omega) (by omega) (by omega))
theorem sim_incident (h : Rel u v) (p q : Int32) : SI Rel (g_X9_incident u p q) (g_X10_incident v p q) [("java/lang/IndexOutOfBoundsException", 1), ("java/lang/IllegalArgumentException", 2)] := by
  obtain ⟨hM, hT, hD, hS, hO, hH, hI, hP, hB, hK⟩ := id h
  obtain ⟨n, hn, n1, n2, pl, hw, hpl, ha, hb⟩ := id hI
  rcases incc hn n1 n2 p with ⟨e1, e2⟩ | ⟨k, hk, rfl, e1, e2⟩
  · exact SI_no "java/lang/IndexOutOfBoundsException" 1 0 (v' := m_thrown_set v 1) es1 (by simp only [g_X9_incident, e1, pz_bind, pz_ni, pz_xr, id]) (by simp only [g_X10_incident, e2, pz_bind, pz_let, z00, if_true, pz_h1]) rfl h
  · have a1 : ∀ {α : Type} (a : Option α), g_in (nI k) 12 a = a := fun a => pz_inN (by omega) (by decide) a
    have c1 := cl_I (show k < 2 ^ 31 by omega)
    obtain ⟨x, hx, ex⟩ := hpl k hk
    have m2 : mI_placed (m_thrown_set v 0) = cI_places u := pl.symm
    have m3 : mI_state (m_thrown_set v 0) = cI_how u := hw.symm
    rcases iwc q 0 3 with ⟨-, -, f1, f2⟩ | ⟨-, f1, f2⟩
    · by_cases q0 : q = 0
      · refine SI_ok (u' := u) (v' := m_thrown_set v 0) (nI (x / 4)) ?_ ?_ rfl h
        · simp only [g_X9_incident, e1, f1, pz_bind, pz_ni1, pz_na1, pz_xl, eq_true q0, if_true, secOf hn n1 hk hx ex]
        · simp only [g_X10_incident, e2, f2, pz_bind, pz_let, pz_h0, z10, if_false, a1, c1, m2, ex, eq_true q0, if_true]
          exact congrArg (fun z => some (z, m_thrown_set v 0)) (pk_div (d := 4) (by omega) (by omega) (by omega))
      · by_cases q1 : q = 1
        · refine SI_ok (u' := u) (v' := m_thrown_set v 0) (nI x - nI x / (4 : Int32) * (4 : Int32)) ?_ ?_ rfl h
          · simp only [g_X9_incident, e1, f1, pz_bind, pz_let, pz_ni1, pz_na1, pz_xl, eq_false q0, eq_true q1, if_true, if_false, a1, c1, ex]
          · simp only [g_X10_incident, e2, f2, pz_bind, pz_let, pz_h0, z10, if_false, a1, c1, m2, ex, eq_false q0, eq_true q1, if_true]
        · by_cases q2 : q = 2
          · refine SI_ok (u' := u) (v' := m_thrown_set v 0) (cI_how u k) ?_ ?_ rfl h
            · simp only [g_X9_incident, e1, f1, pz_bind, pz_let, pz_ni1, pz_na1, pz_xl, eq_false q0, eq_false q1, eq_true q2, if_true, if_false, a1, c1]
            · simp only [g_X10_incident, e2, f2, pz_bind, pz_let, pz_h0, z10, if_false, a1, c1, m3, eq_false q0, eq_false q1, eq_true q2, if_true]
          · have po : g_X10_patrolOf (m_thrown_set v 0) (nI k) = some (cI_patrols u k) := patOf (v := m_thrown_set v 0) hn ha hb hk
            refine SI_ok (u' := u) (v' := m_thrown_set v 0) (cI_patrols u k) ?_ ?_ rfl h
            · simp only [g_X9_incident, e1, f1, pz_bind, pz_let, pz_ni1, pz_na1, pz_xl, eq_false q0, eq_false q1, eq_false q2, if_false, a1, c1]
            · simp only [g_X10_incident, e2, f2, pz_bind, pz_let, pz_h0, z10, if_false, a1, c1, po, eq_false q0, eq_false q1, eq_false q2]
    · exact SI_no "java/lang/IllegalArgumentException" 2 0 (v' := m_thrown_set v 2) es2 (by simp only [g_X9_incident, e1, f1, pz_ni1, pz_xl, pz_xr, id, pz_bind, pz_na]) (by simp only [g_X10_incident, e2, f2, pz_bind, pz_let, z00, z10, z20, if_true, if_false, pz_h2]) rfl h
/-- the shoulder is shut, in both alike -/
theorem shut (hH : cH_open u = mH_isOpen v) : ∃ (c : Int32) (f : Nat → Int32), g_X6_shutAll u = some (c, cH_open_set u f) ∧ g_X10_shuts v = some (c, mH_isOpen_set v f) ∧ ∀ k : Nat, f k = 0 ∨ f k = cH_open u k := by
  have o1 : ∀ f, cH_open (cH_open_set u f) = f := fun _ => rfl
  have o2 : ∀ f g, cH_open_set (cH_open_set u f) g = cH_open_set u g := fun _ _ => rfl
  have o3 : ∀ f, mH_isOpen (mH_isOpen_set v f) = f := fun _ => rfl
  have o4 : ∀ f g, mH_isOpen_set (mH_isOpen_set v f) g = mH_isOpen_set v g := fun _ _ => rfl
  obtain ⟨n, s', t', ⟨c, f, hf, rfl, rfl⟩, h1, h2⟩ := lpR (fun n (z : Int32 × Int32 × GS) => lp_X6_shutAll_4 (fun (x1_4 : Int32) (w4 : GS) => some (x1_4, w4)) n z.1 z.2.1 z.2.2) (fun n (z : Int32 × Int32 × MS) => lp_X10_shuts_4 (fun (x1_4 : Int32) (w4 : MS) => some (x1_4, w4)) n z.1 z.2.1 z.2.2) 12 (by decide) (fun i z t => ∃ (c : Int32) (f : Nat → Int32), (∀ k : Nat, f k = 0 ∨ f k = cH_open u k) ∧ z = (c, nI i, cH_open_set u f) ∧ t = (c, nI i, mH_isOpen_set v f)) (by
    rintro n i z t hi ⟨c, f, hf, rfl, rfl⟩
    by_cases q : f i = 0
    · refine ⟨(c, nI (i + 1), cH_open_set u f), (c, nI (i + 1), mH_isOpen_set v f), ⟨c, f, hf, rfl, rfl⟩, ?_, ?_⟩
      · show lp_X6_shutAll_4 _ (n + 1) c (nI i) _ = lp_X6_shutAll_4 _ n _ _ _
        simp only [lp_X6_shutAll_4, c_ge 12 12 hi (by decide), if_false, pz_inN hi (show 12 < 2 ^ 31 by decide), pz_let, cl_I (show i < 2 ^ 31 by omega), o1, eq_true q, if_true, nI_1]
      · show lp_X10_shuts_4 _ (n + 1) c (nI i) _ = lp_X10_shuts_4 _ n _ _ _
        have uf : upd f i 0 = f := funext fun k => by
          by_cases e : k = i
          · rw [e, pk_us, q]
          · rw [pk_un e]
        simp only [lp_X10_shuts_4, c_ge 12 12 hi (by decide), if_false, pz_inN hi (show 12 < 2 ^ 31 by decide), pz_let, cl_I (show i < 2 ^ 31 by omega), o3, o4, eq_true q, if_true, nI_1, vnb0, uf, Int32.add_zero]
    · refine ⟨(c + 1, nI (i + 1), cH_open_set u (upd f i 0)), (c + 1, nI (i + 1), mH_isOpen_set v (upd f i 0)), ⟨c + 1, upd f i 0, fun k => ?_, rfl, rfl⟩, ?_, ?_⟩
      · by_cases e : k = i
        · rw [e, pk_us]
          exact Or.inl rfl
        · rw [pk_un e]
          exact hf k
      · show lp_X6_shutAll_4 _ (n + 1) c (nI i) _ = lp_X6_shutAll_4 _ n _ _ _
        simp only [lp_X6_shutAll_4, c_ge 12 12 hi (by decide), if_false, pz_inN hi (show 12 < 2 ^ 31 by decide), pz_let, cl_I (show i < 2 ^ 31 by omega), o1, o2, eq_false q, nI_1, vnb0]
      · show lp_X10_shuts_4 _ (n + 1) c (nI i) _ = lp_X10_shuts_4 _ n _ _ _
        simp only [lp_X10_shuts_4, c_ge 12 12 hi (by decide), if_false, pz_inN hi (show 12 < 2 ^ 31 by decide), pz_let, cl_I (show i < 2 ^ 31 by omega), o3, o4, eq_false q, nI_1, vnb0]) (0, 0, u) (0, 0, v) ⟨0, cH_open u, fun k => Or.inr rfl, rfl, by rw [hH]; rfl⟩
  refine ⟨c, f, h1.trans ?_, h2.trans ?_, hf⟩
  · show lp_X6_shutAll_4 _ (n + 1) _ (nI 12) _ = _
    simp only [lp_X6_shutAll_4, c_le 12 12 (by decide), if_true]
  · show lp_X10_shuts_4 _ (n + 1) _ (nI 12) _ = _
    simp only [lp_X10_shuts_4, c_le 12 12 (by decide), if_true]
theorem sim_shut (h : Rel u v) : ∃ (r : Int32) (u' : GS) (v' : MS), g_X9_shutShoulder u = some (r, u') ∧ g_X10_shutShoulder v = some (r, v') ∧ Rel u' v' := by
  obtain ⟨hM, hT, hD, hS, hO, hH, hI, hP, hB, hK⟩ := id h
  obtain ⟨c, f, h1, h2, hf⟩ := shut (u := u) (v := m_thrown_set v 0) hH.1
  refine ⟨c, _, _, ?_, ?_, (⟨hM, hT, hD, hS, hO, ⟨rfl, hH.2.1, fun k => (hf k).elim Or.inl (fun e => (hH.2.2 k).elim (fun q => Or.inl (e.trans q)) (fun q => Or.inr (e.trans q)))⟩, hI, hP, hB, hK⟩ : Rel (cH_open_set u f) (mH_isOpen_set (m_thrown_set v 0) f))⟩
  · simp only [g_X9_shutShoulder, h1, pz_bind]
  · simp only [g_X10_shutShoulder, h2, pz_bind, pz_let]
theorem sim_stop (h : Rel u v) (p q : Int32) : SV Rel (g_X9_stop u p q) (g_X10_stop v p q) [("java/lang/IndexOutOfBoundsException", 1), ("java/lang/IllegalStateException", 2)] := by
  obtain ⟨hM, hT, hD, hS, hO, hH, hI, hP, hB, hK⟩ := id h
  rcases plcc u p q with ⟨e1, e2⟩ | ⟨s, l, hs, hl, rfl, rfl, e1, e2⟩
  · exact SV_no "java/lang/IndexOutOfBoundsException" 1 (v' := m_thrown_set v 1) es1 (by simp only [g_X9_stop, e1, pz_xr, id]) (by simp only [g_X10_stop, e2, pz_bind, pz_let, z00, if_true, pz_h1]) rfl h
  · have hk : 4 * s + l < 48 := by omega
    have a1 : ∀ {α : Type} (a : Option α), g_in (nI (4 * s + l)) 48 a = a := fun a => pz_inN hk (by decide) a
    have a2 : ∀ {α : Type} (a : Option α), g_in (nI s) 12 a = a := fun a => pz_inN hs (by decide) a
    have c1 := cl_I (show 4 * s + l < 2 ^ 31 by omega)
    have c2 := cl_I (show s < 2 ^ 31 by omega)
    have m1 : mT_isStopped v = cT_stopped u := hT.stopped
    have m2 : mT_isStopped (m_thrown_set v 0) = cT_stopped u := hT.stopped
    by_cases s0 : cT_stopped u (4 * s + l) = 0
    · have base : RT (cT_stopped_set u (upd (cT_stopped u) (4 * s + l) 1)) (mT_isStopped_set (m_thrown_set v 0) (upd (cT_stopped u) (4 * s + l) 1)) := ⟨congrArg (fun t : cT_t => (t.1, upd (cT_stopped u) (4 * s + l) 1, t.2.2)) hT.1, hT.2⟩
      by_cases l0 : nI l = 0
      · obtain ⟨c, f, h1, h2, hf⟩ := shut (u := cH_foundClearAt_set (cT_stopped_set u (upd (cT_stopped u) (4 * s + l) 1)) (upd (cH_foundClearAt u) s (-1000))) (v := mH_wasClear_set (mT_isStopped_set (m_thrown_set v 0) (upd (cT_stopped u) (4 * s + l) 1)) (upd (mH_wasClear v) s 0)) hH.1
        have z1 : ∀ g, cH_foundClearAt (cT_stopped_set u g) = cH_foundClearAt u := fun _ => rfl
        have z2 : ∀ g, mH_wasClear (mT_isStopped_set (m_thrown_set v 0) g) = mH_wasClear v := fun _ => rfl
        refine SV_ok 0 ?_ ?_ ?_ (⟨hM, base, hD, hS, hO, ⟨rfl, ?_, fun k => (hf k).elim Or.inl (fun e => (hH.2.2 k).elim (fun q => Or.inl (e.trans q)) (fun q => Or.inr (e.trans q)))⟩, hI, hP, hB, hK⟩ : Rel (cH_open_set (cH_foundClearAt_set (cT_stopped_set u (upd (cT_stopped u) (4 * s + l) 1)) (upd (cH_foundClearAt u) s (-1000))) f) (mH_isOpen_set (mH_wasClear_set (mT_isStopped_set (m_thrown_set v 0) (upd (cT_stopped u) (4 * s + l) 1)) (upd (mH_wasClear v) s 0)) f))
        · simp only [g_X9_stop, e1, pz_xl, placeN, pz_bind, a1, a2, c1, c2, s0, if_true, pz_let, pz_ns1, vnb1, eq_true l0, z1, h1]
        · simp only [g_X10_stop, e2, pz_bind, z10, if_false, mpl, a1, a2, c1, c2, m1, m2, s0, if_true, pz_let, pz_h0, vnb1, vnb0, eq_true l0, z2, h2]
        · rfl
        · intro k hk
          show upd (cH_foundClearAt u) s (-1000) k = if upd (mH_wasClear v) s 0 k = 0 then -1000 else mH_looked v k
          by_cases e : k = s
          · rw [e, pk_us, pk_us, if_pos rfl]
          · rw [pk_un e, pk_un e]
            exact hH.2.1 k hk
      · refine SV_ok 0 ?_ ?_ ?_ (⟨hM, base, hD, hS, hO, hH, hI, hP, hB, hK⟩ : Rel (cT_stopped_set u (upd (cT_stopped u) (4 * s + l) 1)) (mT_isStopped_set (m_thrown_set v 0) (upd (cT_stopped u) (4 * s + l) 1)))
        · simp only [g_X9_stop, e1, pz_xl, placeN, pz_bind, a1, a2, c1, c2, s0, if_true, pz_let, pz_ns1, vnb1, eq_false l0, if_false]
        · simp only [g_X10_stop, e2, pz_bind, z10, if_false, mpl, a1, a2, c1, c2, m1, m2, s0, if_true, pz_let, pz_h0, vnb1, vnb0, eq_false l0]
        · rfl
    · refine SV_no "java/lang/IllegalStateException" 2 (u' := u) (v' := m_thrown_set v 2) es2 ?_ ?_ rfl h
      · simp only [g_X9_stop, e1, pz_xl, pz_xr, id, placeN, pz_bind, a1, c1, eq_false s0, if_false, pz_let, pz_ns]
      · simp only [g_X10_stop, e2, pz_bind, z10, z00, if_false, if_true, mpl, a1, c1, m1, eq_false s0, pz_let, pz_h2]
end RELS5
