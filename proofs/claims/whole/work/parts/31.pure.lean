/-! the fields, and the calls without loops -/
theorem c_ge (C : Int32) (c : Nat) {i : Nat} (h : i < c) (hc : c < 2 ^ 31) (hC : C = nI c := by rfl) : (C ≤ nI i) = False := eq_false (by
  rw [hC]
  exact nI_ge h hc)
theorem c_le (C : Int32) (c : Nat) (hc : c < 2 ^ 31) (hC : C = nI c := by rfl) : (C ≤ nI c) = True := eq_true (by
  rw [hC]
  exact nI_le (Nat.le_refl c) hc)
theorem c_leT (C : Int32) (c : Nat) {i : Nat} (h : c ≤ i) (hc : i < 2 ^ 31) (hC : C = nI c := by rfl) : (C ≤ nI i) = True := eq_true (by
  rw [hC]
  exact nI_le h hc)
theorem c_neg {i : Nat} (h : i < 2 ^ 31) : (nI i < 0) = False := eq_false (nI_pos h)
theorem c_eq (C : Int32) (c : Nat) {i : Nat} (h : i < 2 ^ 31) (hc : c < 2 ^ 31) (hC : C = nI c := by rfl) : (nI i = C) = (i = c) := by
  rw [hC]
  exact propext (nI_eq h hc)
theorem cl_I {i : Nat} (h : i < 2 ^ 31) : (nI i).toNatClampNeg = i := nI_clamp h
section RELS
variable {u : GS} {v : MS}
theorem RT.held (h : RT u v) : mT_holding v = cT_held u := (congrArg (fun t : cT_t => t.1) h.1).symm
theorem RT.stopped (h : RT u v) : mT_isStopped v = cT_stopped u := (congrArg (fun t : cT_t => t.2.1) h.1).symm
theorem RT.broken (h : RT u v) : mT_isBroken v = cT_broken u := (congrArg (fun t : cT_t => t.2.2.1) h.1).symm
theorem RT.demand (h : RT u v) : mT_demand v = cT_demand u := (congrArg (fun t : cT_t => t.2.2.2.1) h.1).symm
theorem RT.came (h : RT u v) : mT_came v = cT_came u := (congrArg (fun t : cT_t => t.2.2.2.2.1) h.1).symm
theorem RT.waiting (h : RT u v) : mT_waiting v = cT_waiting u := (congrArg (fun t : cT_t => t.2.2.2.2.2.1) h.1).symm
theorem RT.gone (h : RT u v) : mT_gone v = cT_gone u := (congrArg (fun t : cT_t => t.2.2.2.2.2.2) h.1).symm
theorem RD.det (h : RD u v) : mD_detects v = cD_is u := (congrArg (fun t : cD_t => t.1) h.1).symm
theorem RD.stuck (h : RD u v) : mD_stuckAt v = cD_stuckAt u := (congrArg (fun t : cD_t => t.2) h.1).symm
theorem RS.limits (h : RS u v) : mS_limited v = cS_limits u := (congrArg (fun t : cS_t => t.1) h.1).symm
theorem RS.shown (h : RS u v) : mS_speedSign v = cS_shown u := (congrArg (fun t : cS_t => t.2.1) h.1).symm
theorem RS.lowered (h : RS u v) : mS_lowered v = cS_loweredAt u := (congrArg (fun t : cS_t => t.2.2.1) h.1).symm
theorem RS.weather (h : RS u v) : mS_weather v = cS_weather u := (congrArg (fun t : cS_t => t.2.2.2) h.1).symm
theorem RP.at' (h : RP u v) : mP_at v = cP_sections u := (congrArg (fun t : cP_t => t.1) h.1).symm
theorem RP.sent (h : RP u v) : mP_sentTo v = cP_incidents u := (congrArg (fun t : cP_t => t.2.1) h.1).symm
theorem RP.left (h : RP u v) : mP_left v = cP_minutesLeft u := (congrArg (fun t : cP_t => t.2.2) h.1).symm
theorem sim_demand (h : Rel u v) (p : Int32) : SI Rel (g_X9_demand u p) (g_X10_demand v p) [("java/lang/IllegalArgumentException", 1)] := by
  obtain ⟨hM, hT, hD, hS, hO, hH, hI, hP, hB, hK⟩ := id h
  rcases iwc p 0 40 with ⟨-, -, e1, e2⟩ | ⟨-, e1, e2⟩
  · refine SI_ok (u' := cT_demand_set u p) (v' := mT_demand_set (m_thrown_set v 0) p) (mT_demand v) ?_ ?_ rfl ⟨hM, ⟨congrArg (fun t : cT_t => (t.1, t.2.1, t.2.2.1, p, t.2.2.2.2)) hT.1, hT.2⟩, hD, hS, hO, hH, hI, hP, hB, hK⟩
    · rw [hT.demand]
      simp only [g_X9_demand, e1, pz_bind, pz_na1, pz_xl, pz_let]
    · simp only [g_X10_demand, e2, pz_bind, pz_let, z10, if_false, pz_h0] <;> rfl
  · exact SI_no "java/lang/IllegalArgumentException" 1 0 (v' := m_thrown_set v 1) (by simp) (by simp only [g_X9_demand, e1, pz_bind, pz_na, pz_xr, id]) (by simp only [g_X10_demand, e2, pz_bind, pz_let, z00, if_true, pz_h1]) rfl h
theorem sim_weather (h : Rel u v) (p : Int32) : SI Rel (g_X9_weather u p) (g_X10_weather v p) [("java/lang/IllegalArgumentException", 1)] := by
  obtain ⟨hM, hT, hD, hS, hO, hH, hI, hP, hB, hK⟩ := id h
  rcases iwc p 0 3 with ⟨h1, h2, e1, e2⟩ | ⟨-, e1, e2⟩
  · obtain ⟨x, hx, rfl⟩ := ix_of 3 (n := 3) rfl (by decide) h1 h2
    refine SI_ok (u' := cS_weather_set u (nI x)) (v' := mS_weather_set (m_thrown_set v 0) (nI x)) (mS_weather v) ?_ ?_ rfl ⟨hM, hT, hD, ⟨congrArg (fun t : cS_t => (t.1, t.2.1, t.2.2.1, nI x)) hS.1, hS.2.1, hS.2.2.1, x, hx, rfl⟩, hO, hH, hI, hP, hB, hK⟩
    · rw [hS.weather]
      simp only [g_X9_weather, e1, pz_bind, pz_na1, pz_xl, pz_let]
    · simp only [g_X10_weather, e2, pz_bind, pz_let, z10, if_false, pz_h0] <;> rfl
  · exact SI_no "java/lang/IllegalArgumentException" 1 0 (v' := m_thrown_set v 1) (by simp) (by simp only [g_X9_weather, e1, pz_bind, pz_na, pz_xr, id]) (by simp only [g_X10_weather, e2, pz_bind, pz_let, z00, if_true, pz_h1]) rfl h
theorem sim_holds (h : Rel u v) (p q : Int32) : SI Rel (g_X9_holds u p q) (g_X10_holds_ v p q) [("java/lang/IndexOutOfBoundsException", 1)] := by
  obtain ⟨hM, hT, hD, hS, hO, hH, hI, hP, hB, hK⟩ := id h
  rcases plcc u p q with ⟨e1, e2⟩ | ⟨s, l, hs, hl, rfl, rfl, e1, e2⟩
  · exact SI_no "java/lang/IndexOutOfBoundsException" 1 0 (v' := m_thrown_set v 1) (by simp) (by simp only [g_X9_holds, e1, pz_xr, id]) (by simp only [g_X10_holds_, e2, pz_bind, pz_let, z00, if_true, pz_h1]) rfl h
  · have hq : 4 * s + l < 48 := by omega
    refine SI_ok (u' := u) (v' := m_thrown_set v 0) (mT_holding v (nI (4 * s + l)).toNatClampNeg) ?_ ?_ rfl h
    · rw [hT.held]
      simp only [g_X9_holds, e1, pz_xl, placeN, pz_bind, pz_inN hq (by decide)]
    · simp only [g_X10_holds_, e2, pz_bind, pz_let, z10, if_false, pz_h0, mpl, pz_inN hq (by decide)] <;> rfl
theorem updR (f : Nat → Int32) (N : Nat) (Q : Int32 → Prop) (h : ∀ k : Nat, k < N → Q (f k)) (i : Nat) (x : Int32) (hx : Q x) : ∀ k : Nat, k < N → Q (upd f i x k) := fun k hk => by
  by_cases e : k = i
  · rw [e, pk_us]
    exact hx
  · rw [pk_un e]
    exact h k hk
theorem sim_detector (h : Rel u v) (p q r : Int32) : SI Rel (g_X9_detector u p q r) (g_X10_detector v p q r) [("java/lang/IndexOutOfBoundsException", 1), ("java/lang/IllegalArgumentException", 2)] := by
  obtain ⟨hM, hT, hD, hS, hO, hH, hI, hP, hB, hK⟩ := id h
  rcases secc u p with ⟨e1, e2⟩ | ⟨s, hs, rfl, e1, e2⟩
  · refine SI_no "java/lang/IndexOutOfBoundsException" 1 0 (v' := m_thrown_set v 1) (by simp) (by simp only [g_X9_detector, e1, pz_xr, id]) ?_ rfl h
    rcases iwc q 0 2 with ⟨-, -, -, f2⟩ | ⟨-, -, f2⟩
    · by_cases hq : q = 1
      · rcases iwc r 0 120 with ⟨-, -, -, k2⟩ | ⟨-, -, k2⟩ <;> simp only [g_X10_detector, f2, e2, k2, eq_true hq, pz_bind, pz_let, z00, z10, if_true, if_false, pz_h1]
      · simp only [g_X10_detector, f2, e2, eq_false hq, pz_bind, pz_let, z00, z10, if_true, if_false, pz_h1]
    · simp only [g_X10_detector, f2, e2, pz_bind, pz_let, z00, z10, if_true, if_false, pz_h1]
  · have a1 : ∀ {α : Type} (a : Option α), g_in (nI s) 12 a = a := fun a => pz_inN hs (by decide) a
    have ok : (q = 1 → ∃ x : Nat, x ≤ 120 ∧ r = nI x) → ¬ q < 0 → ¬ (2 : Int32) < q → g_X9_isWithin q 0 2 = some 1 → (q = 1 → g_X9_isWithin r 0 120 = some 1) → g_X10_isIn q 0 2 = some 1 → (q = 1 → g_X10_isIn r 0 120 = some 1) → SI Rel (g_X9_detector u (nI s) q r) (g_X10_detector v (nI s) q r) [("java/lang/IndexOutOfBoundsException", 1), ("java/lang/IllegalArgumentException", 2)] := by
      intro hx hq0 hq2 f1 k1 f2 k2
      refine SI_ok (u' := cD_stuckAt_set (cD_is_set u (upd (cD_is u) (nI s).toNatClampNeg q)) (upd (cD_stuckAt u) (nI s).toNatClampNeg r)) (v' := mD_stuckAt_set (mD_detects_set (m_thrown_set v 0) (upd (mD_detects v) (nI s).toNatClampNeg q)) (upd (mD_stuckAt v) (nI s).toNatClampNeg r)) (mD_detects v (nI s).toNatClampNeg) ?_ ?_ rfl ⟨hM, hT, ⟨congrArg (fun t : cD_t => (upd t.1 (nI s).toNatClampNeg q, upd t.2 (nI s).toNatClampNeg r)) hD.1, ?_⟩, hS, hO, hH, hI, hP, hB, hK⟩
      · rw [hD.det]
        by_cases hq : q = 1
        · simp only [g_X9_detector, e1, pz_xl, f1, k1 hq, eq_true hq, pz_bind, pz_na1, pz_let, a1, z10, if_true, if_false] <;> rfl
        · simp only [g_X9_detector, e1, pz_xl, f1, eq_false hq, pz_bind, pz_na1, pz_let, a1, z10, if_true, if_false] <;> rfl
      · by_cases hq : q = 1
        · simp only [g_X10_detector, e2, f2, k2 hq, eq_true hq, pz_bind, pz_h0, pz_let, a1, z10, if_true, if_false] <;> rfl
        · simp only [g_X10_detector, e2, f2, eq_false hq, pz_bind, pz_h0, pz_let, a1, z10, if_true, if_false] <;> rfl
      · intro k hk
        show upd (cD_is u) (nI s).toNatClampNeg q k = 0 ∨ upd (cD_is u) (nI s).toNatClampNeg q k = 2 ∨ ∃ x : Nat, x ≤ 120 ∧ upd (cD_stuckAt u) (nI s).toNatClampNeg r k = nI x
        rw [cl_I (by omega)]
        by_cases e : k = s
        · rw [e, pk_us, pk_us]
          obtain ⟨x, hx2, rfl⟩ := ix_of 2 (n := 2) rfl (by decide) hq0 hq2
          by_cases x0 : x = 0
          · exact Or.inl (by rw [x0]; rfl)
          · by_cases x2 : x = 2
            · exact Or.inr (Or.inl (by rw [x2]; rfl))
            · exact Or.inr (Or.inr (hx (by rw [show x = 1 by omega]; rfl)))
        · rw [pk_un e, pk_un e]
          exact hD.2 k hk
    have no : ∀ (f1 : g_X9_isWithin q 0 2 = some 0 ∨ (g_X9_isWithin q 0 2 = some 1 ∧ q = 1 ∧ g_X9_isWithin r 0 120 = some 0)) (f2 : g_X10_isIn q 0 2 = some 0 ∨ (g_X10_isIn q 0 2 = some 1 ∧ q = 1 ∧ g_X10_isIn r 0 120 = some 0)), SI Rel (g_X9_detector u (nI s) q r) (g_X10_detector v (nI s) q r) [("java/lang/IndexOutOfBoundsException", 1), ("java/lang/IllegalArgumentException", 2)] := by
      intro f1 f2
      refine SI_no "java/lang/IllegalArgumentException" 2 0 (u' := u) (v' := m_thrown_set v 2) (by simp) ?_ ?_ rfl h
      · rcases f1 with f1 | ⟨f1, hq, k1⟩
        · simp only [g_X9_detector, e1, pz_xl, f1, pz_bind, pz_na, pz_xr, id]
        · simp only [g_X9_detector, e1, pz_xl, f1, k1, eq_true hq, pz_bind, pz_na, pz_na1, pz_xr, id, pz_let, z00, z10, if_true, if_false]
      · rcases f2 with f2 | ⟨f2, hq, k2⟩
        · simp only [g_X10_detector, e2, f2, pz_bind, pz_let, z00, z10, if_true, if_false, pz_h2]
        · simp only [g_X10_detector, e2, f2, k2, eq_true hq, pz_bind, pz_let, z00, z10, if_true, if_false, pz_h2]
    rcases iwc q 0 2 with ⟨h1, h2, f1, f2⟩ | ⟨-, f1, f2⟩
    · by_cases hq : q = 1
      · rcases iwc r 0 120 with ⟨h3, h4, k1, k2⟩ | ⟨-, k1, k2⟩
        · exact ok (fun _ => ix_of 120 (n := 120) rfl (by decide) h3 h4) h1 h2 f1 (fun _ => k1) f2 (fun _ => k2)
        · exact no (Or.inr ⟨f1, hq, k1⟩) (Or.inr ⟨f2, hq, k2⟩)
      · exact ok (fun z => absurd z hq) h1 h2 f1 (fun z => absurd z hq) f2 (fun z => absurd z hq)
    · exact no (Or.inl f1) (Or.inl f2)
end RELS
